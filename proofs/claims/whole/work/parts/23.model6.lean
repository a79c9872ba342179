/-! printed by wip/gen/meths12.py: courses, the model -/
/-- the best of 0 .. n behind a start; what another pays; which -/
def tbs (st : Nat × Nat × Nat) (f : Nat → Nat × Nat) : Nat → Nat × Nat × Nat
  | 0 => st
  | n + 1 => if (f (n + 1)).1 < (tbs st f n).1 then ((f (n + 1)).1, (f (n + 1)).2, n + 1) else tbs st f n
theorem tbs_t {st : Nat × Nat × Nat} {f : Nat → Nat × Nat} {n : Nat} (h : (f (n + 1)).1 < (tbs st f n).1) : tbs st f (n + 1) = ((f (n + 1)).1, (f (n + 1)).2, n + 1) := by show (if _ then _ else _) = _; rw [if_pos h]
theorem tbs_f {st : Nat × Nat × Nat} {f : Nat → Nat × Nat} {n : Nat} (h : ¬ (f (n + 1)).1 < (tbs st f n).1) : tbs st f (n + 1) = tbs st f n := by show (if _ then _ else _) = _; rw [if_neg h]
theorem tbs_le {st : Nat × Nat × Nat} {f : Nat → Nat × Nat} : ∀ n, (tbs st f n).1 ≤ st.1 := by
  intro n
  induction n with
  | zero => exact Nat.le_refl _
  | succ n ih =>
    unfold tbs
    split
    · show (f (n + 1)).1 ≤ _; omega
    · exact ih
theorem tbs_or {st : Nat × Nat × Nat} {f : Nat → Nat × Nat} : ∀ n, tbs st f n = st ∨ ∃ w, 1 ≤ w ∧ w ≤ n ∧ tbs st f n = ((f w).1, (f w).2, w) := by
  intro n
  induction n with
  | zero => exact Or.inl rfl
  | succ n ih =>
    unfold tbs
    split
    · exact Or.inr ⟨n + 1, by omega, by omega, rfl⟩
    · rcases ih with h | ⟨w, h1, h2, h3⟩
      · exact Or.inl h
      · exact Or.inr ⟨w, h1, by omega, h3⟩
set_option maxHeartbeats 4000000 in
theorem c_MO_layTurn_0 (l : Launch) (D : va_G) (g : wG) (F : wF) (pc : Nat) (lf : Nat → Nat) (lw : Nat) (hPI : PI g pc lf) (hPM : PM g F pc lf) (hlw : lw ≤ 2) (h6 : F 58 6 = nI lw) (last who ahead fine : Nat) (nx : Nat → Nat × Nat) (hwho : who < pc) (hahead : ahead < pc) (hlast : last = 0) (hfine : fine ≤ 999) (hnx : ∀ w, 1 ≤ w → w ≤ lf who → F 74 (41 * 1 + w) = nI (nx w).1 ∧ F 75 (41 * 1 + w) = nI (nx w).2 ∧ (nx w).1 ≤ 1000000 ∧ (nx w).2 ≤ 1000000) : CW l y_MO_layTurn b_MO_layTurn 11 (Option.none) 1 0 0 D g F [.ref (wad g 58), .int (nI 0), .int (nI last), .int (nI who), .int (nI ahead), .int (nI fine)] (fun v g2 u => v = none ∧ g = g2 ∧ u 74 (41 * 0 + last) = nI (tbs (1000000000, 0, 0) (fun w => ((nx w).2, (nx w).1)) (lf who)).1 ∧ u 75 (41 * 0 + last) = nI (tbs (1000000000, 0, 0) (fun w => ((nx w).2, (nx w).1)) (lf who)).2.1 ∧ u 76 (41 * 0 + last) = nI (tbs (1000000000, 0, 0) (fun w => ((nx w).2, (nx w).1)) (lf who)).2.2 ∧ ∀ k z, ¬ ((k = 74 ∨ k = 75 ∨ k = 76) ∧ z = 41 * 0 + last) → u k z = F k z) := by
  refine CW.start rfl (Nat.le_of_ble_eq_true rfl) ?_
  intro p e s m args below meth c A ls hc hr hlocks hw hl
  have hl : lv_has ls 11 [(0, .ref (wad g 58)), (1, .int (nI 0)), (2, .int (nI last)), (3, .int (nI who)), (4, .int (nI ahead)), (5, .int (nI fine))] := hl
  have hx := hc.1
  have hb := hc.2.1
  obtain ⟨hpc6, hpcm, hm6, hpc0, hper⟩ := hPI
  obtain ⟨hw1, hw2, hw3⟩ := hper who hwho
  obtain ⟨ha1, ha2, ha3⟩ := hper ahead hahead
  have hsl := shw_le (k := wK g ahead) (w := last) (by omega)
  refine lv_iload_n hx hb d_MO_layTurn_0 rfl (lv_at hl 1 rfl) ?_
  refine lv_iload_n hx hb d_MO_layTurn_1 rfl (lv_at hl 2 rfl) ?_
  refine kRS hc hw lk_MO_160 (As := [.int (nI 0), .int (nI last)]) (rest := []) (c_MO_spot l D g _ (0) (last)) ⟨Nat.le_of_ble_eq_true rfl, Nat.le_of_ble_eq_true rfl⟩ ⟨Nat.le_refl _, Nat.le_refl _⟩ rfl hl rfl (Nat.le_of_ble_eq_true rfl) d_MO_layTurn_2 ?_
  refine lv_istore (lv' := [(6, .int (nI (41 * 0 + last))), (0, .ref (wad g 58)), (1, .int (nI 0)), (2, .int (nI last)), (3, .int (nI who)), (4, .int (nI ahead)), (5, .int (nI fine))]) hx hb d_MO_layTurn_5 hl (by decide) rfl (fun ls hl => ?_)
  refine lv_aload_n hx hb d_MO_layTurn_7 rfl (lv_at hl 1 rfl) ?_
  refine gf_MO_55 hc hw d_MO_layTurn_8 ?_
  refine lv_iload hx hb d_MO_layTurn_11 (lv_at hl 0 rfl) ?_
  refine lv_iload_n hx hb d_MO_layTurn_13 rfl (lv_at hl 2 rfl) ?_
  refine q_if_ne (tgt := 22) hc (by omega) d_MO_layTurn_14 (by decide) (fun c_1 => ?_) (fun c_1 => ?_)
  · exact absurd c_1 (by first | omega | decide)
  · refine lv_ldc hx hb hc.2.2.2.1 (hc.2.2.2.2 _ g_842) d_MO_layTurn_17 ?_
    rw [show (1000000000 : Int32) = nI 1000000000 from by decide +kernel]
    refine lv_goto (tgt := 24) hx hb d_MO_layTurn_19 (by decide) ?_
    refine r_iast hc hw (h := 74) (n := 369) (i := 41 * 0 + last) (fun _ => rfl) (by omega) (by omega) (by decide) d_MO_layTurn_24 (fun H locs hw => ?_)
    refine lv_aload_n hx hb d_MO_layTurn_25 rfl (lv_at hl 1 rfl) ?_
    refine gf_MO_58 hc hw d_MO_layTurn_26 ?_
    refine lv_iload hx hb d_MO_layTurn_29 (lv_at hl 0 rfl) ?_
    refine lv_iconst (v := nI 0) hx hb d_MO_layTurn_31 (by decide) ?_
    refine r_iast hc hw (h := 75) (n := 369) (i := 41 * 0 + last) (fun _ => rfl) (by omega) (by omega) (by decide) d_MO_layTurn_32 (fun H locs hw => ?_)
    refine lv_aload_n hx hb d_MO_layTurn_33 rfl (lv_at hl 1 rfl) ?_
    refine gf_MO_61 hc hw d_MO_layTurn_34 ?_
    refine lv_iload hx hb d_MO_layTurn_37 (lv_at hl 0 rfl) ?_
    refine lv_iconst (v := nI 0) hx hb d_MO_layTurn_39 (by decide) ?_
    refine r_iast hc hw (h := 76) (n := 369) (i := 41 * 0 + last) (fun _ => rfl) (by omega) (by omega) (by decide) d_MO_layTurn_40 (fun H locs hw => ?_)
    refine lv_iconst (v := nI 1) hx hb d_MO_layTurn_41 (by decide) ?_
    refine lv_istore (lv' := [(7, .int (nI 1)), (6, .int (nI (41 * 0 + last))), (0, .ref (wad g 58)), (1, .int (nI 0)), (2, .int (nI last)), (3, .int (nI who)), (4, .int (nI ahead)), (5, .int (nI fine))]) hx hb d_MO_layTurn_42 hl (by decide) rfl (fun ls hl => ?_)
    have loop_44 : ∀ (n_44 : Nat) (i : Nat) (F1 : wF) (H : Heap) (locs : List Loc) (ls : Array Slot), (lf who - i) < n_44 → (i ≤ lf who) → (F1 74 (41 * 0 + last) = nI (tbs (1000000000, 0, 0) (fun w => ((nx w).2, (nx w).1)) i).1) → (F1 75 (41 * 0 + last) = nI (tbs (1000000000, 0, 0) (fun w => ((nx w).2, (nx w).1)) i).2.1) → (F1 76 (41 * 0 + last) = nI (tbs (1000000000, 0, 0) (fun w => ((nx w).2, (nx w).1)) i).2.2) → (∀ k z, ¬ ((k = 74 ∨ k = 75 ∨ k = 76) ∧ z = 41 * 0 + last) → F1 k z = F k z) → Wd D g F1 A s.heap H locs s → lv_has ls 11 [(0, .ref (wad g 58)), (1, .int (nI 0)), (2, .int (nI last)), (3, .int (nI who)), (4, .int (nI ahead)), (5, .int (nI fine)), (6, .int (nI (41 * 0 + last))), (7, .int (nI (i + 1)))] → W p l e (rmc 1 0 0) s m args below meth c H locs 0 0 (MQ below (Qw (fun v g2 u => v = none ∧ g = g2 ∧ u 74 (41 * 0 + last) = nI (tbs (1000000000, 0, 0) (fun w => ((nx w).2, (nx w).1)) (lf who)).1 ∧ u 75 (41 * 0 + last) = nI (tbs (1000000000, 0, 0) (fun w => ((nx w).2, (nx w).1)) (lf who)).2.1 ∧ u 76 (41 * 0 + last) = nI (tbs (1000000000, 0, 0) (fun w => ((nx w).2, (nx w).1)) (lf who)).2.2 ∧ ∀ k z, ¬ ((k = 74 ∨ k = 75 ∨ k = 76) ∧ z = 41 * 0 + last) → u k z = F k z) (Bw D A) A) args s 0 0 A) (F0 m 44 ls []) := by
      intro n_44
      induction n_44 with
      | zero => intro i F1 H locs ls hm; exact absurd hm (Nat.not_lt_zero _)
      | succ n_44 ih_44 =>
        intro i F1 H locs ls hm_44 hi hb1 hb2 hb3 zhF1 hw hl
        have hbl := tbs_le (st := (1000000000, 0, 0)) (f := (fun w => ((nx w).2, (nx w).1))) i
        dsimp only at hbl
        have hsw := shw_le (k := wK g who) (w := i + 1) (by omega)
        refine lv_iload hx hb d_MO_layTurn_44 (lv_at hl 7 rfl) ?_
        refine lv_aload_n hx hb d_MO_layTurn_46 rfl (lv_at hl 0 rfl) ?_
        refine gf_MO_22 hc hw d_MO_layTurn_47 ?_
        refine lv_iload_n hx hb d_MO_layTurn_50 rfl (lv_at hl 3 rfl) ?_
        refine r_iald hc hw (h := 63) (n := 6) (i := who) (fun _ => rfl) (by omega) (by omega) (by decide) d_MO_layTurn_51 (v := .int (nI (lf who))) (congrArg Value.int ((zhF1 63 (who) (by omega)).trans (hPM.2 (who) (by omega)).2)) ?_
        refine q_icmp_gt (tgt := 178) hc (by omega) (by omega) d_MO_layTurn_52 (by decide) (fun c_2 => ?_) (fun c_2 => ?_)
        · exact W_v hc hw hr hlocks (⟨rfl, rfl, by rw [show lf who = i by omega]; exact hb1, by rw [show lf who = i by omega]; exact hb2, by rw [show lf who = i by omega]; exact hb3, zhF1⟩) d_MO_layTurn_178
        · obtain ⟨hn1, hn2, hn3, hn4⟩ := hnx (i + 1) (by omega) (by omega)
          refine lv_iload_n hx hb d_MO_layTurn_55 rfl (lv_at hl 1 rfl) ?_
          refine lv_iconst (v := nI 1) hx hb d_MO_layTurn_56 (by decide) ?_
          refine q_iadd hc d_MO_layTurn_57 ?_
          refine lv_iload hx hb d_MO_layTurn_58 (lv_at hl 7 rfl) ?_
          refine kRS hc hw lk_MO_160 (As := [.int (nI 1), .int (nI (i + 1))]) (rest := []) (c_MO_spot l D g _ (1) (i + 1)) ⟨Nat.le_of_ble_eq_true rfl, Nat.le_of_ble_eq_true rfl⟩ ⟨Nat.le_refl _, Nat.le_refl _⟩ rfl hl rfl (Nat.le_of_ble_eq_true rfl) d_MO_layTurn_60 ?_
          refine lv_istore (lv' := [(8, .int (nI (41 * 1 + (i + 1)))), (0, .ref (wad g 58)), (1, .int (nI 0)), (2, .int (nI last)), (3, .int (nI who)), (4, .int (nI ahead)), (5, .int (nI fine)), (6, .int (nI (41 * 0 + last))), (7, .int (nI (i + 1)))]) hx hb d_MO_layTurn_63 hl (by decide) rfl (fun ls hl => ?_)
          refine lv_aload_n hx hb d_MO_layTurn_65 rfl (lv_at hl 1 rfl) ?_
          refine gf_MO_58 hc hw d_MO_layTurn_66 ?_
          refine lv_iload hx hb d_MO_layTurn_69 (lv_at hl 0 rfl) ?_
          refine r_iald hc hw (h := 75) (n := 369) (i := 41 * 1 + (i + 1)) (fun _ => rfl) (by omega) (by omega) (by decide) d_MO_layTurn_71 (v := .int (nI ((nx (i + 1)).2))) (congrArg Value.int ((zhF1 75 _ (by omega)).trans (hnx (i + 1) (by omega) (by omega)).2.1)) ?_
          refine lv_istore (lv' := [(9, .int (nI ((nx (i + 1)).2))), (8, .int (nI (41 * 1 + (i + 1)))), (0, .ref (wad g 58)), (1, .int (nI 0)), (2, .int (nI last)), (3, .int (nI who)), (4, .int (nI ahead)), (5, .int (nI fine)), (6, .int (nI (41 * 0 + last))), (7, .int (nI (i + 1)))]) hx hb d_MO_layTurn_72 hl (by decide) rfl (fun ls hl => ?_)
          refine lv_aload_n hx hb d_MO_layTurn_74 rfl (lv_at hl 2 rfl) ?_
          refine gf_MO_55 hc hw d_MO_layTurn_75 ?_
          refine lv_iload hx hb d_MO_layTurn_78 (lv_at hl 1 rfl) ?_
          refine r_iald hc hw (h := 74) (n := 369) (i := 41 * 1 + (i + 1)) (fun _ => rfl) (by omega) (by omega) (by decide) d_MO_layTurn_80 (v := .int (nI ((nx (i + 1)).1))) (congrArg Value.int ((zhF1 74 _ (by omega)).trans (hnx (i + 1) (by omega) (by omega)).1)) ?_
          refine lv_istore (lv' := [(10, .int (nI ((nx (i + 1)).1))), (9, .int (nI ((nx (i + 1)).2))), (8, .int (nI (41 * 1 + (i + 1)))), (0, .ref (wad g 58)), (1, .int (nI 0)), (2, .int (nI last)), (3, .int (nI who)), (4, .int (nI ahead)), (5, .int (nI fine)), (6, .int (nI (41 * 0 + last))), (7, .int (nI (i + 1)))]) hx hb d_MO_layTurn_81 hl (by decide) rfl (fun ls hl => ?_)
          refine lv_iload_n hx hb d_MO_layTurn_83 rfl (lv_at hl 4 rfl) ?_
          refine q_if_le (tgt := 133) hc (by omega) d_MO_layTurn_84 (by decide) (fun c_3 => ?_) (fun c_3 => ?_)
          · refine lv_iload hx hb d_MO_layTurn_133 (lv_at hl 1 rfl) ?_
            refine lv_aload_n hx hb d_MO_layTurn_135 rfl (lv_at hl 3 rfl) ?_
            refine gf_MO_55 hc hw d_MO_layTurn_136 ?_
            refine lv_iload hx hb d_MO_layTurn_139 (lv_at hl 9 rfl) ?_
            refine r_iald hc hw (h := 74) (n := 369) (i := 41 * 0 + last) (fun _ => rfl) (by omega) (by omega) (by decide) d_MO_layTurn_141 (v := .int (nI ((tbs (1000000000, 0, 0) (fun w => ((nx w).2, (nx w).1)) i).1))) (congrArg Value.int (hb1)) ?_
            refine q_icmp_ge (tgt := 172) hc (by omega) (by omega) d_MO_layTurn_142 (by decide) (fun c_4 => ?_) (fun c_4 => ?_)
            · have hbs := tbs_f (st := (1000000000, 0, 0)) (f := (fun w => ((nx w).2, (nx w).1))) (n := i) (by show ¬ _ < _; omega)
              refine lv_iinc (v := nI ((i + 1) + 1)) (lv' := [(7, .int (nI ((i + 1) + 1))), (10, .int (nI ((nx (i + 1)).1))), (9, .int (nI ((nx (i + 1)).2))), (8, .int (nI (41 * 1 + (i + 1)))), (0, .ref (wad g 58)), (1, .int (nI 0)), (2, .int (nI last)), (3, .int (nI who)), (4, .int (nI ahead)), (5, .int (nI fine)), (6, .int (nI (41 * 0 + last)))]) hx hb d_MO_layTurn_172 hl (k := 10) rfl (nI_inc1 _) (by decide) rfl (fun ls hl => ?_)
              refine lv_goto (tgt := 44) hx hb d_MO_layTurn_175 (by decide) ?_
              exact ih_44 (i + 1) _ _ _ _ (by omega) (by omega) (by rw [hbs]; exact hb1) (by rw [hbs]; exact hb2) (by rw [hbs]; exact hb3) (zhF1) hw (lv_sub hl [4, 5, 6, 7, 8, 9, 10, 0] rfl)
            · have hbs := tbs_t (st := (1000000000, 0, 0)) (f := (fun w => ((nx w).2, (nx w).1))) (n := i) c_4
              refine lv_aload_n hx hb d_MO_layTurn_145 rfl (lv_at hl 3 rfl) ?_
              refine gf_MO_55 hc hw d_MO_layTurn_146 ?_
              refine lv_iload hx hb d_MO_layTurn_149 (lv_at hl 9 rfl) ?_
              refine lv_iload hx hb d_MO_layTurn_151 (lv_at hl 1 rfl) ?_
              refine r_iast hc hw (h := 74) (n := 369) (i := 41 * 0 + last) (fun _ => rfl) (by omega) (by omega) (by decide) d_MO_layTurn_153 (fun H locs hw => ?_)
              refine lv_aload_n hx hb d_MO_layTurn_154 rfl (lv_at hl 3 rfl) ?_
              refine gf_MO_58 hc hw d_MO_layTurn_155 ?_
              refine lv_iload hx hb d_MO_layTurn_158 (lv_at hl 9 rfl) ?_
              refine lv_iload hx hb d_MO_layTurn_160 (lv_at hl 0 rfl) ?_
              refine r_iast hc hw (h := 75) (n := 369) (i := 41 * 0 + last) (fun _ => rfl) (by omega) (by omega) (by decide) d_MO_layTurn_162 (fun H locs hw => ?_)
              refine lv_aload_n hx hb d_MO_layTurn_163 rfl (lv_at hl 3 rfl) ?_
              refine gf_MO_61 hc hw d_MO_layTurn_164 ?_
              refine lv_iload hx hb d_MO_layTurn_167 (lv_at hl 9 rfl) ?_
              refine lv_iload hx hb d_MO_layTurn_169 (lv_at hl 10 rfl) ?_
              refine r_iast hc hw (h := 76) (n := 369) (i := 41 * 0 + last) (fun _ => rfl) (by omega) (by omega) (by decide) d_MO_layTurn_171 (fun H locs hw => ?_)
              refine lv_iinc (v := nI ((i + 1) + 1)) (lv' := [(7, .int (nI ((i + 1) + 1))), (10, .int (nI ((nx (i + 1)).1))), (9, .int (nI ((nx (i + 1)).2))), (8, .int (nI (41 * 1 + (i + 1)))), (0, .ref (wad g 58)), (1, .int (nI 0)), (2, .int (nI last)), (3, .int (nI who)), (4, .int (nI ahead)), (5, .int (nI fine)), (6, .int (nI (41 * 0 + last)))]) hx hb d_MO_layTurn_172 hl (k := 10) rfl (nI_inc1 _) (by decide) rfl (fun ls hl => ?_)
              refine lv_goto (tgt := 44) hx hb d_MO_layTurn_175 (by decide) ?_
              exact ih_44 (i + 1) _ _ _ _ (by omega) (by omega) (by rw [hbs]; exact (u2_h (by decide)).trans ((u2_h (by decide)).trans (u2_same _ _ _ _))) (by rw [hbs]; exact (u2_h (by decide)).trans (u2_same _ _ _ _)) (by rw [hbs]; exact u2_same _ _ _ _) (fun k z h => by rw [u2_ij2 (by omega), u2_ij2 (by omega), u2_ij2 (by omega)]; exact zhF1 k z h) hw (lv_sub hl [4, 5, 6, 7, 8, 9, 10, 0] rfl)
          · exact absurd c_3 (by first | omega | decide)
    have hl : lv_has ls 11 [(7, .int (nI (0 + 1))), (6, .int (nI (41 * 0 + last))), (0, .ref (wad g 58)), (1, .int (nI 0)), (2, .int (nI last)), (3, .int (nI who)), (4, .int (nI ahead)), (5, .int (nI fine))] := by rw [show 0 + 1 = 1 from by rfl]; exact hl
    exact loop_44 _ 0 _ _ _ _ (Nat.lt_succ_self _) (by omega) ((u2_h (by decide)).trans ((u2_h (by decide)).trans (u2_same _ _ _ _))) ((u2_h (by decide)).trans (u2_same _ _ _ _)) (u2_same _ _ _ _) (fun k z h => by rw [u2_ij2 (by omega), u2_ij2 (by omega), u2_ij2 (by omega)]) hw (lv_sub hl [2, 3, 4, 5, 6, 7, 1, 0] rfl)
set_option maxHeartbeats 4000000 in
theorem c_MO_layTurn_s (l : Launch) (D : va_G) (g : wG) (F : wF) (pc : Nat) (lf : Nat → Nat) (lw : Nat) (hPI : PI g pc lf) (hPM : PM g F pc lf) (hlw : lw ≤ 2) (h6 : F 58 6 = nI lw) (t : Nat) (ht : t + 1 < 8) (last who ahead fine : Nat) (nx : Nat → Nat × Nat) (hwho : who < pc) (hahead : ahead < pc) (hlast : 1 ≤ last) (hlast2 : last ≤ lf ahead) (hfine : fine ≤ 999) (hnx : ∀ w, 1 ≤ w → w ≤ lf who → F 74 (41 * (t + 1 + 1) + w) = nI (nx w).1 ∧ F 75 (41 * (t + 1 + 1) + w) = nI (nx w).2 ∧ (nx w).1 ≤ 1000000 ∧ (nx w).2 ≤ 1000000) : CW l y_MO_layTurn b_MO_layTurn 11 (Option.none) 1 0 0 D g F [.ref (wad g 58), .int (nI (t + 1)), .int (nI last), .int (nI who), .int (nI ahead), .int (nI fine)] (fun v g2 u => v = none ∧ g = g2 ∧ u 74 (41 * (t + 1) + last) = nI (tbs (fine, 0, 0) (fun w => ((nx w).2 + pys lw (shw (wK g who) w) (shw (wK g ahead) last), (nx w).1 + pys lw (shw (wK g ahead) last) (shw (wK g who) w))) (lf who)).1 ∧ u 75 (41 * (t + 1) + last) = nI (tbs (fine, 0, 0) (fun w => ((nx w).2 + pys lw (shw (wK g who) w) (shw (wK g ahead) last), (nx w).1 + pys lw (shw (wK g ahead) last) (shw (wK g who) w))) (lf who)).2.1 ∧ u 76 (41 * (t + 1) + last) = nI (tbs (fine, 0, 0) (fun w => ((nx w).2 + pys lw (shw (wK g who) w) (shw (wK g ahead) last), (nx w).1 + pys lw (shw (wK g ahead) last) (shw (wK g who) w))) (lf who)).2.2 ∧ ∀ k z, ¬ ((k = 74 ∨ k = 75 ∨ k = 76) ∧ z = 41 * (t + 1) + last) → u k z = F k z) := by
  refine CW.start rfl (Nat.le_of_ble_eq_true rfl) ?_
  intro p e s m args below meth c A ls hc hr hlocks hw hl
  have hl : lv_has ls 11 [(0, .ref (wad g 58)), (1, .int (nI (t + 1))), (2, .int (nI last)), (3, .int (nI who)), (4, .int (nI ahead)), (5, .int (nI fine))] := hl
  have hx := hc.1
  have hb := hc.2.1
  obtain ⟨hpc6, hpcm, hm6, hpc0, hper⟩ := hPI
  obtain ⟨hw1, hw2, hw3⟩ := hper who hwho
  obtain ⟨ha1, ha2, ha3⟩ := hper ahead hahead
  have hsl := shw_le (k := wK g ahead) (w := last) (by omega)
  refine lv_iload_n hx hb d_MO_layTurn_0 rfl (lv_at hl 1 rfl) ?_
  refine lv_iload_n hx hb d_MO_layTurn_1 rfl (lv_at hl 2 rfl) ?_
  refine kRS hc hw lk_MO_160 (As := [.int (nI (t + 1)), .int (nI last)]) (rest := []) (c_MO_spot l D g _ (t + 1) (last)) ⟨Nat.le_of_ble_eq_true rfl, Nat.le_of_ble_eq_true rfl⟩ ⟨Nat.le_refl _, Nat.le_refl _⟩ rfl hl rfl (Nat.le_of_ble_eq_true rfl) d_MO_layTurn_2 ?_
  refine lv_istore (lv' := [(6, .int (nI (41 * (t + 1) + last))), (0, .ref (wad g 58)), (1, .int (nI (t + 1))), (2, .int (nI last)), (3, .int (nI who)), (4, .int (nI ahead)), (5, .int (nI fine))]) hx hb d_MO_layTurn_5 hl (by decide) rfl (fun ls hl => ?_)
  refine lv_aload_n hx hb d_MO_layTurn_7 rfl (lv_at hl 1 rfl) ?_
  refine gf_MO_55 hc hw d_MO_layTurn_8 ?_
  refine lv_iload hx hb d_MO_layTurn_11 (lv_at hl 0 rfl) ?_
  refine lv_iload_n hx hb d_MO_layTurn_13 rfl (lv_at hl 2 rfl) ?_
  refine q_if_ne (tgt := 22) hc (by omega) d_MO_layTurn_14 (by decide) (fun c_1 => ?_) (fun c_1 => ?_)
  · refine lv_iload hx hb d_MO_layTurn_22 (lv_at hl 6 rfl) ?_
    refine r_iast hc hw (h := 74) (n := 369) (i := 41 * (t + 1) + last) (fun _ => rfl) (by omega) (by omega) (by decide) d_MO_layTurn_24 (fun H locs hw => ?_)
    refine lv_aload_n hx hb d_MO_layTurn_25 rfl (lv_at hl 1 rfl) ?_
    refine gf_MO_58 hc hw d_MO_layTurn_26 ?_
    refine lv_iload hx hb d_MO_layTurn_29 (lv_at hl 0 rfl) ?_
    refine lv_iconst (v := nI 0) hx hb d_MO_layTurn_31 (by decide) ?_
    refine r_iast hc hw (h := 75) (n := 369) (i := 41 * (t + 1) + last) (fun _ => rfl) (by omega) (by omega) (by decide) d_MO_layTurn_32 (fun H locs hw => ?_)
    refine lv_aload_n hx hb d_MO_layTurn_33 rfl (lv_at hl 1 rfl) ?_
    refine gf_MO_61 hc hw d_MO_layTurn_34 ?_
    refine lv_iload hx hb d_MO_layTurn_37 (lv_at hl 0 rfl) ?_
    refine lv_iconst (v := nI 0) hx hb d_MO_layTurn_39 (by decide) ?_
    refine r_iast hc hw (h := 76) (n := 369) (i := 41 * (t + 1) + last) (fun _ => rfl) (by omega) (by omega) (by decide) d_MO_layTurn_40 (fun H locs hw => ?_)
    refine lv_iconst (v := nI 1) hx hb d_MO_layTurn_41 (by decide) ?_
    refine lv_istore (lv' := [(7, .int (nI 1)), (6, .int (nI (41 * (t + 1) + last))), (0, .ref (wad g 58)), (1, .int (nI (t + 1))), (2, .int (nI last)), (3, .int (nI who)), (4, .int (nI ahead)), (5, .int (nI fine))]) hx hb d_MO_layTurn_42 hl (by decide) rfl (fun ls hl => ?_)
    have loop_44 : ∀ (n_44 : Nat) (i : Nat) (F1 : wF) (H : Heap) (locs : List Loc) (ls : Array Slot), (lf who - i) < n_44 → (i ≤ lf who) → (F1 74 (41 * (t + 1) + last) = nI (tbs (fine, 0, 0) (fun w => ((nx w).2 + pys lw (shw (wK g who) w) (shw (wK g ahead) last), (nx w).1 + pys lw (shw (wK g ahead) last) (shw (wK g who) w))) i).1) → (F1 75 (41 * (t + 1) + last) = nI (tbs (fine, 0, 0) (fun w => ((nx w).2 + pys lw (shw (wK g who) w) (shw (wK g ahead) last), (nx w).1 + pys lw (shw (wK g ahead) last) (shw (wK g who) w))) i).2.1) → (F1 76 (41 * (t + 1) + last) = nI (tbs (fine, 0, 0) (fun w => ((nx w).2 + pys lw (shw (wK g who) w) (shw (wK g ahead) last), (nx w).1 + pys lw (shw (wK g ahead) last) (shw (wK g who) w))) i).2.2) → (∀ k z, ¬ ((k = 74 ∨ k = 75 ∨ k = 76) ∧ z = 41 * (t + 1) + last) → F1 k z = F k z) → Wd D g F1 A s.heap H locs s → lv_has ls 11 [(0, .ref (wad g 58)), (1, .int (nI (t + 1))), (2, .int (nI last)), (3, .int (nI who)), (4, .int (nI ahead)), (5, .int (nI fine)), (6, .int (nI (41 * (t + 1) + last))), (7, .int (nI (i + 1)))] → W p l e (rmc 1 0 0) s m args below meth c H locs 0 0 (MQ below (Qw (fun v g2 u => v = none ∧ g = g2 ∧ u 74 (41 * (t + 1) + last) = nI (tbs (fine, 0, 0) (fun w => ((nx w).2 + pys lw (shw (wK g who) w) (shw (wK g ahead) last), (nx w).1 + pys lw (shw (wK g ahead) last) (shw (wK g who) w))) (lf who)).1 ∧ u 75 (41 * (t + 1) + last) = nI (tbs (fine, 0, 0) (fun w => ((nx w).2 + pys lw (shw (wK g who) w) (shw (wK g ahead) last), (nx w).1 + pys lw (shw (wK g ahead) last) (shw (wK g who) w))) (lf who)).2.1 ∧ u 76 (41 * (t + 1) + last) = nI (tbs (fine, 0, 0) (fun w => ((nx w).2 + pys lw (shw (wK g who) w) (shw (wK g ahead) last), (nx w).1 + pys lw (shw (wK g ahead) last) (shw (wK g who) w))) (lf who)).2.2 ∧ ∀ k z, ¬ ((k = 74 ∨ k = 75 ∨ k = 76) ∧ z = 41 * (t + 1) + last) → u k z = F k z) (Bw D A) A) args s 0 0 A) (F0 m 44 ls []) := by
      intro n_44
      induction n_44 with
      | zero => intro i F1 H locs ls hm; exact absurd hm (Nat.not_lt_zero _)
      | succ n_44 ih_44 =>
        intro i F1 H locs ls hm_44 hi hb1 hb2 hb3 zhF1 hw hl
        have hbl := tbs_le (st := (fine, 0, 0)) (f := (fun w => ((nx w).2 + pys lw (shw (wK g who) w) (shw (wK g ahead) last), (nx w).1 + pys lw (shw (wK g ahead) last) (shw (wK g who) w)))) i
        dsimp only at hbl
        have hsw := shw_le (k := wK g who) (w := i + 1) (by omega)
        have hp1 := pys_le lw (shw (wK g who) (i + 1)) (shw (wK g ahead) last)
        have hp2 := pys_le lw (shw (wK g ahead) last) (shw (wK g who) (i + 1))
        refine lv_iload hx hb d_MO_layTurn_44 (lv_at hl 7 rfl) ?_
        refine lv_aload_n hx hb d_MO_layTurn_46 rfl (lv_at hl 0 rfl) ?_
        refine gf_MO_22 hc hw d_MO_layTurn_47 ?_
        refine lv_iload_n hx hb d_MO_layTurn_50 rfl (lv_at hl 3 rfl) ?_
        refine r_iald hc hw (h := 63) (n := 6) (i := who) (fun _ => rfl) (by omega) (by omega) (by decide) d_MO_layTurn_51 (v := .int (nI (lf who))) (congrArg Value.int ((zhF1 63 (who) (by omega)).trans (hPM.2 (who) (by omega)).2)) ?_
        refine q_icmp_gt (tgt := 178) hc (by omega) (by omega) d_MO_layTurn_52 (by decide) (fun c_2 => ?_) (fun c_2 => ?_)
        · exact W_v hc hw hr hlocks (⟨rfl, rfl, by rw [show lf who = i by omega]; exact hb1, by rw [show lf who = i by omega]; exact hb2, by rw [show lf who = i by omega]; exact hb3, zhF1⟩) d_MO_layTurn_178
        · obtain ⟨hn1, hn2, hn3, hn4⟩ := hnx (i + 1) (by omega) (by omega)
          refine lv_iload_n hx hb d_MO_layTurn_55 rfl (lv_at hl 1 rfl) ?_
          refine lv_iconst (v := nI 1) hx hb d_MO_layTurn_56 (by decide) ?_
          refine q_iadd hc d_MO_layTurn_57 ?_
          refine lv_iload hx hb d_MO_layTurn_58 (lv_at hl 7 rfl) ?_
          refine kRS hc hw lk_MO_160 (As := [.int (nI ((t + 1) + 1)), .int (nI (i + 1))]) (rest := []) (c_MO_spot l D g _ ((t + 1) + 1) (i + 1)) ⟨Nat.le_of_ble_eq_true rfl, Nat.le_of_ble_eq_true rfl⟩ ⟨Nat.le_refl _, Nat.le_refl _⟩ rfl hl rfl (Nat.le_of_ble_eq_true rfl) d_MO_layTurn_60 ?_
          refine lv_istore (lv' := [(8, .int (nI (41 * ((t + 1) + 1) + (i + 1)))), (0, .ref (wad g 58)), (1, .int (nI (t + 1))), (2, .int (nI last)), (3, .int (nI who)), (4, .int (nI ahead)), (5, .int (nI fine)), (6, .int (nI (41 * (t + 1) + last))), (7, .int (nI (i + 1)))]) hx hb d_MO_layTurn_63 hl (by decide) rfl (fun ls hl => ?_)
          refine lv_aload_n hx hb d_MO_layTurn_65 rfl (lv_at hl 1 rfl) ?_
          refine gf_MO_58 hc hw d_MO_layTurn_66 ?_
          refine lv_iload hx hb d_MO_layTurn_69 (lv_at hl 0 rfl) ?_
          refine r_iald hc hw (h := 75) (n := 369) (i := 41 * ((t + 1) + 1) + (i + 1)) (fun _ => rfl) (by omega) (by omega) (by decide) d_MO_layTurn_71 (v := .int (nI ((nx (i + 1)).2))) (congrArg Value.int ((zhF1 75 _ (by omega)).trans (hnx (i + 1) (by omega) (by omega)).2.1)) ?_
          refine lv_istore (lv' := [(9, .int (nI ((nx (i + 1)).2))), (8, .int (nI (41 * ((t + 1) + 1) + (i + 1)))), (0, .ref (wad g 58)), (1, .int (nI (t + 1))), (2, .int (nI last)), (3, .int (nI who)), (4, .int (nI ahead)), (5, .int (nI fine)), (6, .int (nI (41 * (t + 1) + last))), (7, .int (nI (i + 1)))]) hx hb d_MO_layTurn_72 hl (by decide) rfl (fun ls hl => ?_)
          refine lv_aload_n hx hb d_MO_layTurn_74 rfl (lv_at hl 2 rfl) ?_
          refine gf_MO_55 hc hw d_MO_layTurn_75 ?_
          refine lv_iload hx hb d_MO_layTurn_78 (lv_at hl 1 rfl) ?_
          refine r_iald hc hw (h := 74) (n := 369) (i := 41 * ((t + 1) + 1) + (i + 1)) (fun _ => rfl) (by omega) (by omega) (by decide) d_MO_layTurn_80 (v := .int (nI ((nx (i + 1)).1))) (congrArg Value.int ((zhF1 74 _ (by omega)).trans (hnx (i + 1) (by omega) (by omega)).1)) ?_
          refine lv_istore (lv' := [(10, .int (nI ((nx (i + 1)).1))), (9, .int (nI ((nx (i + 1)).2))), (8, .int (nI (41 * ((t + 1) + 1) + (i + 1)))), (0, .ref (wad g 58)), (1, .int (nI (t + 1))), (2, .int (nI last)), (3, .int (nI who)), (4, .int (nI ahead)), (5, .int (nI fine)), (6, .int (nI (41 * (t + 1) + last))), (7, .int (nI (i + 1)))]) hx hb d_MO_layTurn_81 hl (by decide) rfl (fun ls hl => ?_)
          refine lv_iload_n hx hb d_MO_layTurn_83 rfl (lv_at hl 4 rfl) ?_
          refine q_if_le (tgt := 133) hc (by omega) d_MO_layTurn_84 (by decide) (fun c_3 => ?_) (fun c_3 => ?_)
          · exact absurd c_3 (by omega)
          · refine lv_iload hx hb d_MO_layTurn_87 (lv_at hl 1 rfl) ?_
            refine lv_aload_n hx hb d_MO_layTurn_89 rfl (lv_at hl 3 rfl) ?_
            refine lv_aload_n hx hb d_MO_layTurn_90 rfl (lv_at hl 3 rfl) ?_
            refine lv_iload_n hx hb d_MO_layTurn_91 rfl (lv_at hl 6 rfl) ?_
            refine lv_iload hx hb d_MO_layTurn_92 (lv_at hl 10 rfl) ?_
            refine kRV hc hw lk_MO_119 (As := [.int (nI who), .int (nI (i + 1))]) (rest := [.ref (wad g 58), .int (nI ((nx (i + 1)).2))]) (c_MO_shows l D g _ (who) (i + 1) (wK g (who)) (by omega) (by omega) ((zhF1 62 (who) (by omega)).trans (hPM.2 (who) (by omega)).1) (hper (who) (by omega)).1) (rc_MO hw) ⟨Nat.le_of_ble_eq_true rfl, Nat.le_of_ble_eq_true rfl⟩ ⟨Nat.le_refl _, Nat.le_refl _⟩ rfl hl rfl (Nat.le_of_ble_eq_true rfl) d_MO_layTurn_94 ?_
            refine lv_aload_n hx hb d_MO_layTurn_97 rfl (lv_at hl 3 rfl) ?_
            refine lv_iload hx hb d_MO_layTurn_98 (lv_at hl 7 rfl) ?_
            refine lv_iload_n hx hb d_MO_layTurn_100 rfl (lv_at hl 5 rfl) ?_
            refine kRV hc hw lk_MO_119 (As := [.int (nI ahead), .int (nI last)]) (rest := [.int (nI (shw (wK g who) (i + 1))), .ref (wad g 58), .int (nI ((nx (i + 1)).2))]) (c_MO_shows l D g _ (ahead) (last) (wK g (ahead)) (by omega) (by omega) ((zhF1 62 (ahead) (by omega)).trans (hPM.2 (ahead) (by omega)).1) (hper (ahead) (by omega)).1) (rc_MO hw) ⟨Nat.le_of_ble_eq_true rfl, Nat.le_of_ble_eq_true rfl⟩ ⟨Nat.le_refl _, Nat.le_refl _⟩ rfl hl rfl (Nat.le_of_ble_eq_true rfl) d_MO_layTurn_101 ?_
            refine kRV hc hw lk_MO_136 (As := [.int (nI (shw (wK g who) (i + 1))), .int (nI (shw (wK g ahead) last))]) (rest := [.int (nI ((nx (i + 1)).2))]) (c_MO_pays l D g _ lw (shw (wK g who) (i + 1)) (shw (wK g ahead) last) (by omega) (by omega) hlw ((zhF1 58 6 (by omega)).trans h6)) (rc_MO hw) ⟨Nat.le_of_ble_eq_true rfl, Nat.le_of_ble_eq_true rfl⟩ ⟨Nat.le_refl _, Nat.le_refl _⟩ rfl hl rfl (Nat.le_of_ble_eq_true rfl) d_MO_layTurn_104 ?_
            refine q_iadd hc d_MO_layTurn_107 ?_
            refine lv_istore (lv' := [(9, .int (nI (((nx (i + 1)).2) + (pys lw (shw (wK g who) (i + 1)) (shw (wK g ahead) last))))), (10, .int (nI ((nx (i + 1)).1))), (8, .int (nI (41 * ((t + 1) + 1) + (i + 1)))), (0, .ref (wad g 58)), (1, .int (nI (t + 1))), (2, .int (nI last)), (3, .int (nI who)), (4, .int (nI ahead)), (5, .int (nI fine)), (6, .int (nI (41 * (t + 1) + last))), (7, .int (nI (i + 1)))]) hx hb d_MO_layTurn_108 hl (by decide) rfl (fun ls hl => ?_)
            refine lv_iload hx hb d_MO_layTurn_110 (lv_at hl 1 rfl) ?_
            refine lv_aload_n hx hb d_MO_layTurn_112 rfl (lv_at hl 3 rfl) ?_
            refine lv_aload_n hx hb d_MO_layTurn_113 rfl (lv_at hl 3 rfl) ?_
            refine lv_iload hx hb d_MO_layTurn_114 (lv_at hl 7 rfl) ?_
            refine lv_iload_n hx hb d_MO_layTurn_116 rfl (lv_at hl 5 rfl) ?_
            refine kRV hc hw lk_MO_119 (As := [.int (nI ahead), .int (nI last)]) (rest := [.ref (wad g 58), .int (nI ((nx (i + 1)).1))]) (c_MO_shows l D g _ (ahead) (last) (wK g (ahead)) (by omega) (by omega) ((zhF1 62 (ahead) (by omega)).trans (hPM.2 (ahead) (by omega)).1) (hper (ahead) (by omega)).1) (rc_MO hw) ⟨Nat.le_of_ble_eq_true rfl, Nat.le_of_ble_eq_true rfl⟩ ⟨Nat.le_refl _, Nat.le_refl _⟩ rfl hl rfl (Nat.le_of_ble_eq_true rfl) d_MO_layTurn_117 ?_
            refine lv_aload_n hx hb d_MO_layTurn_120 rfl (lv_at hl 3 rfl) ?_
            refine lv_iload_n hx hb d_MO_layTurn_121 rfl (lv_at hl 6 rfl) ?_
            refine lv_iload hx hb d_MO_layTurn_122 (lv_at hl 10 rfl) ?_
            refine kRV hc hw lk_MO_119 (As := [.int (nI who), .int (nI (i + 1))]) (rest := [.int (nI (shw (wK g ahead) last)), .ref (wad g 58), .int (nI ((nx (i + 1)).1))]) (c_MO_shows l D g _ (who) (i + 1) (wK g (who)) (by omega) (by omega) ((zhF1 62 (who) (by omega)).trans (hPM.2 (who) (by omega)).1) (hper (who) (by omega)).1) (rc_MO hw) ⟨Nat.le_of_ble_eq_true rfl, Nat.le_of_ble_eq_true rfl⟩ ⟨Nat.le_refl _, Nat.le_refl _⟩ rfl hl rfl (Nat.le_of_ble_eq_true rfl) d_MO_layTurn_124 ?_
            refine kRV hc hw lk_MO_136 (As := [.int (nI (shw (wK g ahead) last)), .int (nI (shw (wK g who) (i + 1)))]) (rest := [.int (nI ((nx (i + 1)).1))]) (c_MO_pays l D g _ lw (shw (wK g ahead) last) (shw (wK g who) (i + 1)) (by omega) (by omega) hlw ((zhF1 58 6 (by omega)).trans h6)) (rc_MO hw) ⟨Nat.le_of_ble_eq_true rfl, Nat.le_of_ble_eq_true rfl⟩ ⟨Nat.le_refl _, Nat.le_refl _⟩ rfl hl rfl (Nat.le_of_ble_eq_true rfl) d_MO_layTurn_127 ?_
            refine q_iadd hc d_MO_layTurn_130 ?_
            refine lv_istore (lv' := [(10, .int (nI (((nx (i + 1)).1) + (pys lw (shw (wK g ahead) last) (shw (wK g who) (i + 1)))))), (9, .int (nI (((nx (i + 1)).2) + (pys lw (shw (wK g who) (i + 1)) (shw (wK g ahead) last))))), (8, .int (nI (41 * ((t + 1) + 1) + (i + 1)))), (0, .ref (wad g 58)), (1, .int (nI (t + 1))), (2, .int (nI last)), (3, .int (nI who)), (4, .int (nI ahead)), (5, .int (nI fine)), (6, .int (nI (41 * (t + 1) + last))), (7, .int (nI (i + 1)))]) hx hb d_MO_layTurn_131 hl (by decide) rfl (fun ls hl => ?_)
            refine lv_iload hx hb d_MO_layTurn_133 (lv_at hl 1 rfl) ?_
            refine lv_aload_n hx hb d_MO_layTurn_135 rfl (lv_at hl 3 rfl) ?_
            refine gf_MO_55 hc hw d_MO_layTurn_136 ?_
            refine lv_iload hx hb d_MO_layTurn_139 (lv_at hl 9 rfl) ?_
            refine r_iald hc hw (h := 74) (n := 369) (i := 41 * (t + 1) + last) (fun _ => rfl) (by omega) (by omega) (by decide) d_MO_layTurn_141 (v := .int (nI ((tbs (fine, 0, 0) (fun w => ((nx w).2 + pys lw (shw (wK g who) w) (shw (wK g ahead) last), (nx w).1 + pys lw (shw (wK g ahead) last) (shw (wK g who) w))) i).1))) (congrArg Value.int (hb1)) ?_
            refine q_icmp_ge (tgt := 172) hc (by omega) (by omega) d_MO_layTurn_142 (by decide) (fun c_4 => ?_) (fun c_4 => ?_)
            · have hbs := tbs_f (st := (fine, 0, 0)) (f := (fun w => ((nx w).2 + pys lw (shw (wK g who) w) (shw (wK g ahead) last), (nx w).1 + pys lw (shw (wK g ahead) last) (shw (wK g who) w)))) (n := i) (by show ¬ _ < _; omega)
              refine lv_iinc (v := nI ((i + 1) + 1)) (lv' := [(7, .int (nI ((i + 1) + 1))), (10, .int (nI (((nx (i + 1)).1) + (pys lw (shw (wK g ahead) last) (shw (wK g who) (i + 1)))))), (9, .int (nI (((nx (i + 1)).2) + (pys lw (shw (wK g who) (i + 1)) (shw (wK g ahead) last))))), (8, .int (nI (41 * ((t + 1) + 1) + (i + 1)))), (0, .ref (wad g 58)), (1, .int (nI (t + 1))), (2, .int (nI last)), (3, .int (nI who)), (4, .int (nI ahead)), (5, .int (nI fine)), (6, .int (nI (41 * (t + 1) + last)))]) hx hb d_MO_layTurn_172 hl (k := 10) rfl (nI_inc1 _) (by decide) rfl (fun ls hl => ?_)
              refine lv_goto (tgt := 44) hx hb d_MO_layTurn_175 (by decide) ?_
              exact ih_44 (i + 1) _ _ _ _ (by omega) (by omega) (by rw [hbs]; exact hb1) (by rw [hbs]; exact hb2) (by rw [hbs]; exact hb3) (zhF1) hw (lv_sub hl [4, 5, 6, 7, 8, 9, 10, 0] rfl)
            · have hbs := tbs_t (st := (fine, 0, 0)) (f := (fun w => ((nx w).2 + pys lw (shw (wK g who) w) (shw (wK g ahead) last), (nx w).1 + pys lw (shw (wK g ahead) last) (shw (wK g who) w)))) (n := i) c_4
              refine lv_aload_n hx hb d_MO_layTurn_145 rfl (lv_at hl 3 rfl) ?_
              refine gf_MO_55 hc hw d_MO_layTurn_146 ?_
              refine lv_iload hx hb d_MO_layTurn_149 (lv_at hl 9 rfl) ?_
              refine lv_iload hx hb d_MO_layTurn_151 (lv_at hl 1 rfl) ?_
              refine r_iast hc hw (h := 74) (n := 369) (i := 41 * (t + 1) + last) (fun _ => rfl) (by omega) (by omega) (by decide) d_MO_layTurn_153 (fun H locs hw => ?_)
              refine lv_aload_n hx hb d_MO_layTurn_154 rfl (lv_at hl 3 rfl) ?_
              refine gf_MO_58 hc hw d_MO_layTurn_155 ?_
              refine lv_iload hx hb d_MO_layTurn_158 (lv_at hl 9 rfl) ?_
              refine lv_iload hx hb d_MO_layTurn_160 (lv_at hl 0 rfl) ?_
              refine r_iast hc hw (h := 75) (n := 369) (i := 41 * (t + 1) + last) (fun _ => rfl) (by omega) (by omega) (by decide) d_MO_layTurn_162 (fun H locs hw => ?_)
              refine lv_aload_n hx hb d_MO_layTurn_163 rfl (lv_at hl 3 rfl) ?_
              refine gf_MO_61 hc hw d_MO_layTurn_164 ?_
              refine lv_iload hx hb d_MO_layTurn_167 (lv_at hl 9 rfl) ?_
              refine lv_iload hx hb d_MO_layTurn_169 (lv_at hl 10 rfl) ?_
              refine r_iast hc hw (h := 76) (n := 369) (i := 41 * (t + 1) + last) (fun _ => rfl) (by omega) (by omega) (by decide) d_MO_layTurn_171 (fun H locs hw => ?_)
              refine lv_iinc (v := nI ((i + 1) + 1)) (lv' := [(7, .int (nI ((i + 1) + 1))), (10, .int (nI (((nx (i + 1)).1) + (pys lw (shw (wK g ahead) last) (shw (wK g who) (i + 1)))))), (9, .int (nI (((nx (i + 1)).2) + (pys lw (shw (wK g who) (i + 1)) (shw (wK g ahead) last))))), (8, .int (nI (41 * ((t + 1) + 1) + (i + 1)))), (0, .ref (wad g 58)), (1, .int (nI (t + 1))), (2, .int (nI last)), (3, .int (nI who)), (4, .int (nI ahead)), (5, .int (nI fine)), (6, .int (nI (41 * (t + 1) + last)))]) hx hb d_MO_layTurn_172 hl (k := 10) rfl (nI_inc1 _) (by decide) rfl (fun ls hl => ?_)
              refine lv_goto (tgt := 44) hx hb d_MO_layTurn_175 (by decide) ?_
              exact ih_44 (i + 1) _ _ _ _ (by omega) (by omega) (by rw [hbs]; exact (u2_h (by decide)).trans ((u2_h (by decide)).trans (u2_same _ _ _ _))) (by rw [hbs]; exact (u2_h (by decide)).trans (u2_same _ _ _ _)) (by rw [hbs]; exact u2_same _ _ _ _) (fun k z h => by rw [u2_ij2 (by omega), u2_ij2 (by omega), u2_ij2 (by omega)]; exact zhF1 k z h) hw (lv_sub hl [4, 5, 6, 7, 8, 9, 10, 0] rfl)
    have hl : lv_has ls 11 [(7, .int (nI (0 + 1))), (6, .int (nI (41 * (t + 1) + last))), (0, .ref (wad g 58)), (1, .int (nI (t + 1))), (2, .int (nI last)), (3, .int (nI who)), (4, .int (nI ahead)), (5, .int (nI fine))] := by rw [show 0 + 1 = 1 from by rfl]; exact hl
    exact loop_44 _ 0 _ _ _ _ (Nat.lt_succ_self _) (by omega) ((u2_h (by decide)).trans ((u2_h (by decide)).trans (u2_same _ _ _ _))) ((u2_h (by decide)).trans (u2_same _ _ _ _)) (u2_same _ _ _ _) (fun k z h => by rw [u2_ij2 (by omega), u2_ij2 (by omega), u2_ij2 (by omega)]) hw (lv_sub hl [2, 3, 4, 5, 6, 7, 1, 0] rfl)
  · exact absurd c_1 (by omega)
