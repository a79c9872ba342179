/-! printed by wip/gen/meths21.py: Turns -/
theorem b_par : ∀ k, k < 64 → nI k &&& nI 1 = nI (k % 2) := by decide +kernel
theorem b_x1 : ∀ k, k < 2 → nI k ^^^ nI 1 = nI (1 - k) := by decide +kernel
theorem mn2_id {a b : Nat} (h : a ≤ b) : mn2 a b = a := by unfold mn2; rw [if_neg (by omega)]
theorem tbs_2z {x : Nat} {f : Nat → Nat × Nat} {n : Nat} (h : (tbs (x, 0, 0) f n).2.2 = 0) : (tbs (x, 0, 0) f n).2.1 = 0 := by
  rcases tbs_or (st := (x, 0, 0)) (f := f) n with h2 | ⟨w, h1, h2, h3⟩
  · rw [h2]
  · rw [h3] at h; have h4 : w = 0 := h; omega
theorem tbs_2n {x : Nat} {f : Nat → Nat × Nat} {n : Nat} (h : ¬ (tbs (x, 0, 0) f n).2.2 = 0) : (tbs (x, 0, 0) f n).2.1 = (f (tbs (x, 0, 0) f n).2.2).2 := by
  rcases tbs_or (st := (x, 0, 0)) (f := f) n with h2 | ⟨w, h1, h2, h3⟩
  · rw [h2] at h; exact absurd rfl h
  · rw [h3]
theorem tbs_hit {x : Nat} {f : Nat → Nat × Nat} (h1 : (f 1).1 < x) (v : Nat) : 1 ≤ (tbs (x, 0, 0) f (v + 1)).2.2 ∧ (tbs (x, 0, 0) f (v + 1)).2.2 ≤ v + 1 ∧ (f (tbs (x, 0, 0) f (v + 1)).2.2).1 = (tbs (x, 0, 0) f (v + 1)).1 ∧ (f (tbs (x, 0, 0) f (v + 1)).2.2).2 = (tbs (x, 0, 0) f (v + 1)).2.1 := by
  have hle : ∀ v, (tbs (x, 0, 0) f (v + 1)).1 ≤ (f 1).1 := by
    intro v
    induction v with
    | zero => rw [tbs_t (show (f (0 + 1)).1 < (tbs (x, 0, 0) f 0).1 from h1)]; exact Nat.le_refl _
    | succ v ih =>
      by_cases h : (f (v + 1 + 1)).1 < (tbs (x, 0, 0) f (v + 1)).1
      · rw [tbs_t h]; show (f (v + 1 + 1)).1 ≤ _; omega
      · rw [tbs_f h]; exact ih
  have h9 := hle v
  rcases tbs_or (st := (x, 0, 0)) (f := f) (v + 1) with h2 | ⟨w, h4, h2, h3⟩
  · rw [h2] at h9; have h8 : x ≤ (f 1).1 := h9; omega
  · rw [h3]; exact ⟨h4, h2, rfl, rfl⟩
theorem wh_e {a b t : Nat} (h : t % 2 = 0) : wh a b t = a := by unfold wh; rw [if_pos h]
theorem wh_o {a b t : Nat} (h : ¬ t % 2 = 0) : wh a b t = b := by unfold wh; rw [if_neg h]
set_option maxHeartbeats 4000000 in
theorem c_TU_weighAll (l : Launch) (D : va_G) (g : wG) (F : wF) (j sd lj : Nat) (hj : j < wm g) (h2 : wK g j ≤ 2) (hlj : lj ≤ 40) (hlf : F (79 + j) 1 = nI lj) (hsd : sd < 2) : CW l y_TU_weighAll b_TU_weighAll 4 (Option.none) 2 0 0 D g F [.ref (wad g 23), .ref (wad g (79 + j)), .int (nI sd)] (fun v g2 u => v = none ∧ g = g2 ∧ u 42 sd = nI lj ∧ (∀ w, 1 ≤ w → w ≤ lj → u (40 + sd) w = nI (shw (wK g j) w)) ∧ ∀ k z, ¬ (k = 42 ∧ z = sd) → k ≠ 40 + sd → u k z = F k z) := by
  refine CW.start rfl (Nat.le_of_ble_eq_true rfl) ?_
  intro p e s m args below meth c A ls hc hr hlocks hw hl
  have hl : lv_has ls 4 [(0, .ref (wad g 23)), (1, .ref (wad g (79 + j))), (2, .int (nI sd))] := hl
  have hx := hc.1
  have hb := hc.2.1
  refine lv_aload_n hx hb d_TU_weighAll_0 rfl (lv_at hl 0 rfl) ?_
  refine gf_TU_25 hc hw d_TU_weighAll_1 ?_
  refine lv_iload_n hx hb d_TU_weighAll_4 rfl (lv_at hl 2 rfl) ?_
  refine lv_aload_n hx hb d_TU_weighAll_5 rfl (lv_at hl 1 rfl) ?_
  refine gf_TU_51 hc hw (k := j) (hj) (h2) d_TU_weighAll_6 (v := .int (nI lj)) (congrArg Value.int (hlf)) ?_
  refine lv_bipush (v := nI 40) hx hb d_TU_weighAll_9 (by decide) ?_
  refine r_min hc (x := lj) (y := 40) (rest := [.int (nI sd), .ref (wad g 42)]) (by omega) (by omega) hl (Nat.le_of_ble_eq_true rfl) (Nat.le_of_ble_eq_true rfl) (Nat.le_refl _) (Nat.le_refl _) d_TU_weighAll_11 ?_
  rw [mn2_id (show lj ≤ 40 by omega)]
  refine r_iast hc hw (h := 42) (n := 2) (i := sd) (fun _ => rfl) (by omega) (by omega) (by decide) d_TU_weighAll_14 (fun H locs hw => ?_)
  refine lv_iconst (v := nI 1) hx hb d_TU_weighAll_15 (by decide) ?_
  refine lv_istore_n (lv' := [(3, .int (nI 1)), (0, .ref (wad g 23)), (1, .ref (wad g (79 + j))), (2, .int (nI sd))]) hx hb d_TU_weighAll_16 rfl hl (by decide) rfl (fun ls hl => ?_)
  have loop_17 : ∀ (n_17 : Nat) (i : Nat) (F1 : wF) (H : Heap) (locs : List Loc) (ls : Array Slot), (lj - i) < n_17 → (i ≤ lj) → (F1 42 sd = nI lj) → (∀ w, 1 ≤ w → w ≤ i → F1 (40 + sd) w = nI (shw (wK g j) w)) → (∀ k z, ¬ (k = 42 ∧ z = sd) → k ≠ 40 + sd → F1 k z = F k z) → Wd D g F1 A s.heap H locs s → lv_has ls 4 [(0, .ref (wad g 23)), (1, .ref (wad g (79 + j))), (2, .int (nI sd)), (3, .int (nI (i + 1)))] → W p l e (rmc 2 0 0) s m args below meth c H locs 0 0 (MQ below (Qw (fun v g2 u => v = none ∧ g = g2 ∧ u 42 sd = nI lj ∧ (∀ w, 1 ≤ w → w ≤ lj → u (40 + sd) w = nI (shw (wK g j) w)) ∧ ∀ k z, ¬ (k = 42 ∧ z = sd) → k ≠ 40 + sd → u k z = F k z) (Bw D A) A) args s 0 0 A) (F0 m 17 ls []) := by
    intro n_17
    induction n_17 with
    | zero => intro i F1 H locs ls hm; exact absurd hm (Nat.not_lt_zero _)
    | succ n_17 ih_17 =>
      intro i F1 H locs ls hm_17 hi h42 hsh zhF1 hw hl
      refine lv_iload_n hx hb d_TU_weighAll_17 rfl (lv_at hl 3 rfl) ?_
      refine lv_aload_n hx hb d_TU_weighAll_18 rfl (lv_at hl 0 rfl) ?_
      refine gf_TU_25 hc hw d_TU_weighAll_19 ?_
      refine lv_iload_n hx hb d_TU_weighAll_22 rfl (lv_at hl 2 rfl) ?_
      refine r_iald hc hw (h := 42) (n := 2) (i := sd) (fun _ => rfl) (by omega) (by omega) (by decide) d_TU_weighAll_23 (v := .int (nI lj)) (congrArg Value.int (h42)) ?_
      refine q_icmp_gt (tgt := 46) hc (by omega) (by omega) d_TU_weighAll_24 (by decide) (fun c_1 => ?_) (fun c_1 => ?_)
      · have hie : i = lj := by omega
        rw [hie] at hsh
        exact W_v hc hw hr hlocks (⟨rfl, rfl, h42, hsh, zhF1⟩) d_TU_weighAll_46
      · refine lv_aload_n hx hb d_TU_weighAll_27 rfl (lv_at hl 0 rfl) ?_
        refine gf_TU_22 hc hw d_TU_weighAll_28 ?_
        refine lv_iload_n hx hb d_TU_weighAll_31 rfl (lv_at hl 2 rfl) ?_
        refine r_aldA hc hw (h := 39) (n := 2) (i := sd) (t0 := 3) rfl (by omega) rfl (by omega) (by decide) d_TU_weighAll_32 (v := .ref (wad g (40 + sd))) (show va_rf (wrow g 40 2 sd) = _ from by rw [wrow_at (by omega)]; rfl) ?_
        refine lv_iload_n hx hb d_TU_weighAll_33 rfl (lv_at hl 3 rfl) ?_
        refine lv_aload_n hx hb d_TU_weighAll_34 rfl (lv_at hl 1 rfl) ?_
        refine lv_iload_n hx hb d_TU_weighAll_35 rfl (lv_at hl 3 rfl) ?_
        refine vs_TU_61 hc hw (j := j) (hj) (h2) (w := i + 1) (by omega) ⟨Nat.le_of_ble_eq_true rfl, Nat.le_of_ble_eq_true rfl⟩ ⟨Nat.le_refl _, Nat.le_refl _⟩ hl (Nat.le_of_ble_eq_true rfl) d_TU_weighAll_36 ?_
        refine r_iast hc hw (h := 40 + sd) (n := 41) (i := i + 1) (fun f => wt_tuS g (by omega) f) (by omega) (by omega) (by decide) d_TU_weighAll_39 (fun H locs hw => ?_)
        refine lv_iinc (v := nI ((i + 1) + 1)) (lv' := [(3, .int (nI ((i + 1) + 1))), (0, .ref (wad g 23)), (1, .ref (wad g (79 + j))), (2, .int (nI sd))]) hx hb d_TU_weighAll_40 hl (k := 3) rfl (nI_inc1 _) (by decide) rfl (fun ls hl => ?_)
        refine lv_goto (tgt := 17) hx hb d_TU_weighAll_43 (by decide) ?_
        exact ih_17 (i + 1) _ _ _ _ (by omega) (by omega) ((u2_h (by omega)).trans h42) (fun w h1 h2 => by rcases (show w ≤ i ∨ w = i + 1 by omega) with e9 | e9; exact (u2_i (by omega)).trans (hsh w h1 e9); (rw [e9]; exact u2_same _ _ _ _)) (fun k z h1 h2 => (u2_h h2).trans (zhF1 k z h1 h2)) hw (lv_sub hl [1, 2, 3, 0] rfl)
  have hl : lv_has ls 4 [(3, .int (nI (0 + 1))), (0, .ref (wad g 23)), (1, .ref (wad g (79 + j))), (2, .int (nI sd))] := by rw [show 0 + 1 = 1 from by rfl]; exact hl
  exact loop_17 _ 0 _ _ _ _ (Nat.lt_succ_self _) (by omega) (u2_same _ _ _ _) (fun w h1 h2 => absurd h1 (by omega)) (fun k z h1 _ => u2_ij2 h1) hw (lv_sub hl [1, 2, 3, 0] rfl)
set_option maxHeartbeats 4000000 in
theorem c_TU_choose (l : Launch) (D : va_G) (g : wG) (F : wF) (k bf sd kw ka lw l1 fine : Nat) (nx : Nat → Nat × Nat) (hk1 : 1 ≤ k) (hk : k < 8) (hbf : 1 ≤ bf) (hbf2 : bf ≤ 40) (hs : k % 2 = sd) (hlw : lw ≤ 2) (hl1 : l1 ≤ 40) (hfine : fine ≤ 999) (h6 : F 23 6 = nI fine) (h7 : F 23 7 = nI lw) (h42 : F 42 sd = nI l1) (hsh : ∀ w, 1 ≤ w → w ≤ l1 → F (40 + sd) w = nI (shw kw w)) (hsc : F (40 + (1 - sd)) bf = nI (shw ka bf)) (hnx : ∀ w, 1 ≤ w → w ≤ l1 → F (34 + (1 - sd)) w = nI (nx w).1 ∧ F (37 + (1 - sd)) w = nI (nx w).2 ∧ (nx w).1 ≤ 1000000 ∧ (nx w).2 ≤ 1000000) : CW l y_TU_choose b_TU_choose 10 (Option.none) 2 0 0 D g F [.ref (wad g 23), .int (nI k), .int (nI bf)] (fun v g2 u => v = none ∧ g = g2 ∧ u (25 + k) bf = nI (tbs (fine, 0, 0) (fun w => ((nx w).2 + pys lw (shw kw w) (shw ka bf), (nx w).1 + pys lw (shw ka bf) (shw kw w))) l1).2.2 ∧ u (34 + sd) bf = nI (tbs (fine, 0, 0) (fun w => ((nx w).2 + pys lw (shw kw w) (shw ka bf), (nx w).1 + pys lw (shw ka bf) (shw kw w))) l1).1 ∧ u (37 + sd) bf = nI (tbs (fine, 0, 0) (fun w => ((nx w).2 + pys lw (shw kw w) (shw ka bf), (nx w).1 + pys lw (shw ka bf) (shw kw w))) l1).2.1 ∧ ∀ h z, ¬ ((h = 25 + k ∨ h = 34 + sd ∨ h = 37 + sd) ∧ z = bf) → u h z = F h z) := by
  refine CW.start rfl (Nat.le_of_ble_eq_true rfl) ?_
  intro p e s m args below meth c A ls hc hr hlocks hw hl
  have hl : lv_has ls 10 [(0, .ref (wad g 23)), (1, .int (nI k)), (2, .int (nI bf))] := hl
  have hx := hc.1
  have hb := hc.2.1
  have hsd : sd < 2 := by omega
  have hsa := shw_le (k := ka) (w := bf) (by omega)
  refine lv_iload_n hx hb d_TU_choose_0 rfl (lv_at hl 1 rfl) ?_
  refine lv_iconst (v := nI 1) hx hb d_TU_choose_1 (by decide) ?_
  refine lv_iand hx hb d_TU_choose_2 ?_
  rw [b_par k (by omega), hs]
  refine lv_istore_n (lv' := [(3, .int (nI sd)), (0, .ref (wad g 23)), (1, .int (nI k)), (2, .int (nI bf))]) hx hb d_TU_choose_3 rfl hl (by decide) rfl (fun ls hl => ?_)
  refine lv_iload_n hx hb d_TU_choose_4 rfl (lv_at hl 0 rfl) ?_
  refine lv_iconst (v := nI 1) hx hb d_TU_choose_5 (by decide) ?_
  refine lv_ixor hx hb d_TU_choose_6 ?_
  rw [b_x1 sd (by omega)]
  refine lv_istore (lv' := [(4, .int (nI (1 - sd))), (3, .int (nI sd)), (0, .ref (wad g 23)), (1, .int (nI k)), (2, .int (nI bf))]) hx hb d_TU_choose_7 hl (by decide) rfl (fun ls hl => ?_)
  refine lv_aload_n hx hb d_TU_choose_9 rfl (lv_at hl 2 rfl) ?_
  refine gf_TU_22 hc hw d_TU_choose_10 ?_
  refine lv_iload hx hb d_TU_choose_13 (lv_at hl 0 rfl) ?_
  refine r_aldA hc hw (h := 39) (n := 2) (i := 1 - sd) (t0 := 3) rfl (by omega) rfl (by omega) (by decide) d_TU_choose_15 (v := .ref (wad g (40 + (1 - sd)))) (show va_rf (wrow g 40 2 (1 - sd)) = _ from by rw [wrow_at (by omega)]; rfl) ?_
  refine lv_iload_n hx hb d_TU_choose_16 rfl (lv_at hl 4 rfl) ?_
  refine r_iald hc hw (h := 40 + (1 - sd)) (n := 41) (i := bf) (fun f => wt_tuS g (by omega) f) (by omega) (by omega) (by decide) d_TU_choose_17 (v := .int (nI (shw ka bf))) (congrArg Value.int hsc) ?_
  refine lv_istore (lv' := [(5, .int (nI (shw ka bf))), (4, .int (nI (1 - sd))), (3, .int (nI sd)), (0, .ref (wad g 23)), (1, .int (nI k)), (2, .int (nI bf))]) hx hb d_TU_choose_18 hl (by decide) rfl (fun ls hl => ?_)
  refine lv_aload_n hx hb d_TU_choose_20 rfl (lv_at hl 3 rfl) ?_
  refine gf_TU_32 hc hw d_TU_choose_21 (v := .int (nI fine)) (congrArg Value.int (h6)) ?_
  refine lv_istore (lv' := [(6, .int (nI fine)), (5, .int (nI (shw ka bf))), (4, .int (nI (1 - sd))), (3, .int (nI sd)), (0, .ref (wad g 23)), (1, .int (nI k)), (2, .int (nI bf))]) hx hb d_TU_choose_24 hl (by decide) rfl (fun ls hl => ?_)
  refine lv_iconst (v := nI 0) hx hb d_TU_choose_26 (by decide) ?_
  refine lv_istore (lv' := [(7, .int (nI 0)), (6, .int (nI fine)), (5, .int (nI (shw ka bf))), (4, .int (nI (1 - sd))), (3, .int (nI sd)), (0, .ref (wad g 23)), (1, .int (nI k)), (2, .int (nI bf))]) hx hb d_TU_choose_27 hl (by decide) rfl (fun ls hl => ?_)
  refine lv_iconst (v := nI 1) hx hb d_TU_choose_29 (by decide) ?_
  refine lv_istore (lv' := [(8, .int (nI 1)), (7, .int (nI 0)), (6, .int (nI fine)), (5, .int (nI (shw ka bf))), (4, .int (nI (1 - sd))), (3, .int (nI sd)), (0, .ref (wad g 23)), (1, .int (nI k)), (2, .int (nI bf))]) hx hb d_TU_choose_30 hl (by decide) rfl (fun ls hl => ?_)
  have loop_32 : ∀ (n_32 : Nat) (w : Nat)  (H : Heap) (locs : List Loc) (ls : Array Slot), (l1 - w) < n_32 → (w ≤ l1) → Wd D g F A s.heap H locs s → lv_has ls 10 [(0, .ref (wad g 23)), (1, .int (nI k)), (2, .int (nI bf)), (3, .int (nI sd)), (4, .int (nI (1 - sd))), (5, .int (nI (shw ka bf))), (6, .int (nI ((tbs (fine, 0, 0) (fun w => ((nx w).2 + pys lw (shw kw w) (shw ka bf), (nx w).1 + pys lw (shw ka bf) (shw kw w))) w).1))), (7, .int (nI ((tbs (fine, 0, 0) (fun w => ((nx w).2 + pys lw (shw kw w) (shw ka bf), (nx w).1 + pys lw (shw ka bf) (shw kw w))) w).2.2))), (8, .int (nI (w + 1)))] → W p l e (rmc 2 0 0) s m args below meth c H locs 0 0 (MQ below (Qw (fun v g2 u => v = none ∧ g = g2 ∧ u (25 + k) bf = nI (tbs (fine, 0, 0) (fun w => ((nx w).2 + pys lw (shw kw w) (shw ka bf), (nx w).1 + pys lw (shw ka bf) (shw kw w))) l1).2.2 ∧ u (34 + sd) bf = nI (tbs (fine, 0, 0) (fun w => ((nx w).2 + pys lw (shw kw w) (shw ka bf), (nx w).1 + pys lw (shw ka bf) (shw kw w))) l1).1 ∧ u (37 + sd) bf = nI (tbs (fine, 0, 0) (fun w => ((nx w).2 + pys lw (shw kw w) (shw ka bf), (nx w).1 + pys lw (shw ka bf) (shw kw w))) l1).2.1 ∧ ∀ h z, ¬ ((h = 25 + k ∨ h = 34 + sd ∨ h = 37 + sd) ∧ z = bf) → u h z = F h z) (Bw D A) A) args s 0 0 A) (F0 m 32 ls []) := by
    intro n_32
    induction n_32 with
    | zero => intro w  H locs ls hm; exact absurd hm (Nat.not_lt_zero _)
    | succ n_32 ih_32 =>
      intro w  H locs ls hm_32 hwl hw hl
      have htl : (tbs (fine, 0, 0) (fun w => ((nx w).2 + pys lw (shw kw w) (shw ka bf), (nx w).1 + pys lw (shw ka bf) (shw kw w))) w).1 ≤ fine := tbs_le w
      refine lv_iload hx hb d_TU_choose_32 (lv_at hl 8 rfl) ?_
      refine lv_aload_n hx hb d_TU_choose_34 rfl (lv_at hl 0 rfl) ?_
      refine gf_TU_25 hc hw d_TU_choose_35 ?_
      refine lv_iload_n hx hb d_TU_choose_38 rfl (lv_at hl 3 rfl) ?_
      refine r_iald hc hw (h := 42) (n := 2) (i := sd) (fun _ => rfl) (by omega) (by omega) (by decide) d_TU_choose_39 (v := .int (nI l1)) (congrArg Value.int h42) ?_
      refine q_icmp_gt (tgt := 95) hc (by omega) (by omega) d_TU_choose_40 (by decide) (fun c_1 => ?_) (fun c_1 => ?_)
      · have hwe : w = l1 := by omega
        have hw2 := tbs_w (x := fine) (f := (fun w => ((nx w).2 + pys lw (shw kw w) (shw ka bf), (nx w).1 + pys lw (shw ka bf) (shw kw w)))) w
        refine lv_aload_n hx hb d_TU_choose_95 rfl (lv_at hl 0 rfl) ?_
        refine gf_TU_11 hc hw d_TU_choose_96 ?_
        refine lv_iload_n hx hb d_TU_choose_99 rfl (lv_at hl 1 rfl) ?_
        refine r_aldA hc hw (h := 24) (n := 8) (i := k) (t0 := 3) rfl (by omega) rfl (by omega) (by decide) d_TU_choose_100 (v := .ref (wad g (25 + k))) (show va_rf (wrow g 25 8 k) = _ from by rw [wrow_at (by omega)]; rfl) ?_
        refine lv_iload_n hx hb d_TU_choose_101 rfl (lv_at hl 2 rfl) ?_
        refine lv_iload hx hb d_TU_choose_102 (lv_at hl 7 rfl) ?_
        refine r_iast hc hw (h := 25 + k) (n := 41) (i := bf) (fun f => wt_tuC g (by omega) f) (by omega) (by omega) (by decide) d_TU_choose_104 (fun H locs hw => ?_)
        refine lv_aload_n hx hb d_TU_choose_105 rfl (lv_at hl 0 rfl) ?_
        refine gf_TU_16 hc hw d_TU_choose_106 ?_
        refine lv_iload_n hx hb d_TU_choose_109 rfl (lv_at hl 3 rfl) ?_
        refine r_aldA hc hw (h := 33) (n := 2) (i := sd) (t0 := 3) rfl (by omega) rfl (by omega) (by decide) d_TU_choose_110 (v := .ref (wad g (34 + sd))) (show va_rf (wrow g 34 2 sd) = _ from by rw [wrow_at (by omega)]; rfl) ?_
        refine lv_iload_n hx hb d_TU_choose_111 rfl (lv_at hl 2 rfl) ?_
        refine lv_iload hx hb d_TU_choose_112 (lv_at hl 6 rfl) ?_
        refine r_iast hc hw (h := 34 + sd) (n := 41) (i := bf) (fun f => wt_tuI g (by omega) f) (by omega) (by omega) (by decide) d_TU_choose_114 (fun H locs hw => ?_)
        refine lv_aload_n hx hb d_TU_choose_115 rfl (lv_at hl 0 rfl) ?_
        refine gf_TU_19 hc hw d_TU_choose_116 ?_
        refine lv_iload_n hx hb d_TU_choose_119 rfl (lv_at hl 3 rfl) ?_
        refine r_aldA hc hw (h := 36) (n := 2) (i := sd) (t0 := 3) rfl (by omega) rfl (by omega) (by decide) d_TU_choose_120 (v := .ref (wad g (37 + sd))) (show va_rf (wrow g 37 2 sd) = _ from by rw [wrow_at (by omega)]; rfl) ?_
        refine lv_iload_n hx hb d_TU_choose_121 rfl (lv_at hl 2 rfl) ?_
        refine lv_iload hx hb d_TU_choose_122 (lv_at hl 7 rfl) ?_
        refine q_if_ne (tgt := 131) hc (by omega) d_TU_choose_124 (by decide) (fun c_2 => ?_) (fun c_2 => ?_)
        · have hz9 : ¬ (tbs (fine, 0, 0) (fun w => ((nx w).2 + pys lw (shw kw w) (shw ka bf), (nx w).1 + pys lw (shw ka bf) (shw kw w))) w).2.2 = 0 := c_2
          have zhs3 := shw_le (k := kw) (w := (tbs (fine, 0, 0) (fun w => ((nx w).2 + pys lw (shw kw w) (shw ka bf), (nx w).1 + pys lw (shw ka bf) (shw kw w))) w).2.2) (by omega)
          obtain ⟨hm1, hm2, hm3, hm4⟩ := hnx (tbs (fine, 0, 0) (fun w => ((nx w).2 + pys lw (shw kw w) (shw ka bf), (nx w).1 + pys lw (shw ka bf) (shw kw w))) w).2.2 (by omega) (by omega)
          refine lv_aload_n hx hb d_TU_choose_131 rfl (lv_at hl 0 rfl) ?_
          refine gf_TU_36 hc hw d_TU_choose_132 (v := .int (nI lw)) (congrArg Value.int ((u2_h (by omega)).trans ((u2_h (by omega)).trans h7))) ?_
          refine lv_iload hx hb d_TU_choose_135 (lv_at hl 5 rfl) ?_
          refine lv_aload_n hx hb d_TU_choose_137 rfl (lv_at hl 0 rfl) ?_
          refine gf_TU_22 hc hw d_TU_choose_138 ?_
          refine lv_iload_n hx hb d_TU_choose_141 rfl (lv_at hl 3 rfl) ?_
          refine r_aldA hc hw (h := 39) (n := 2) (i := sd) (t0 := 3) rfl (by omega) rfl (by omega) (by decide) d_TU_choose_142 (v := .ref (wad g (40 + sd))) (show va_rf (wrow g 40 2 sd) = _ from by rw [wrow_at (by omega)]; rfl) ?_
          refine lv_iload hx hb d_TU_choose_143 (lv_at hl 7 rfl) ?_
          refine r_iald hc hw (h := 40 + sd) (n := 41) (i := (tbs (fine, 0, 0) (fun w => ((nx w).2 + pys lw (shw kw w) (shw ka bf), (nx w).1 + pys lw (shw ka bf) (shw kw w))) w).2.2) (fun f => wt_tuS g (by omega) f) (by omega) (by omega) (by decide) d_TU_choose_145 (v := .int (nI (shw kw (tbs (fine, 0, 0) (fun w => ((nx w).2 + pys lw (shw kw w) (shw ka bf), (nx w).1 + pys lw (shw ka bf) (shw kw w))) w).2.2))) (congrArg Value.int ((u2_h (by omega)).trans ((u2_h (by omega)).trans (hsh _ (by omega) (by omega))))) ?_
          refine kRN hc hw lk_TU_65 (As := [.int (nI lw), .int (nI (shw ka bf)), .int (nI (shw kw (tbs (fine, 0, 0) (fun w => ((nx w).2 + pys lw (shw kw w) (shw ka bf), (nx w).1 + pys lw (shw ka bf) (shw kw w))) w).2.2))]) (rest := [.int (nI bf), .ref (wad g (37 + sd))]) (c_AP_pays l D g _ (lw) (shw ka bf) (shw kw (tbs (fine, 0, 0) (fun w => ((nx w).2 + pys lw (shw kw w) (shw ka bf), (nx w).1 + pys lw (shw ka bf) (shw kw w))) w).2.2) (by omega) (by omega) (by omega)) ⟨Nat.le_of_ble_eq_true rfl, Nat.le_of_ble_eq_true rfl⟩ ⟨Nat.le_refl _, Nat.le_refl _⟩ rfl hl rfl (Nat.le_of_ble_eq_true rfl) d_TU_choose_146 ?_
          refine lv_aload_n hx hb d_TU_choose_149 rfl (lv_at hl 0 rfl) ?_
          refine gf_TU_16 hc hw d_TU_choose_150 ?_
          refine lv_iload hx hb d_TU_choose_153 (lv_at hl 4 rfl) ?_
          refine r_aldA hc hw (h := 33) (n := 2) (i := 1 - sd) (t0 := 3) rfl (by omega) rfl (by omega) (by decide) d_TU_choose_155 (v := .ref (wad g (34 + (1 - sd)))) (show va_rf (wrow g 34 2 (1 - sd)) = _ from by rw [wrow_at (by omega)]; rfl) ?_
          refine lv_iload hx hb d_TU_choose_156 (lv_at hl 7 rfl) ?_
          refine r_iald hc hw (h := 34 + (1 - sd)) (n := 41) (i := (tbs (fine, 0, 0) (fun w => ((nx w).2 + pys lw (shw kw w) (shw ka bf), (nx w).1 + pys lw (shw ka bf) (shw kw w))) w).2.2) (fun f => wt_tuI g (by omega) f) (by omega) (by omega) (by decide) d_TU_choose_158 (v := .int (nI ((nx (tbs (fine, 0, 0) (fun w => ((nx w).2 + pys lw (shw kw w) (shw ka bf), (nx w).1 + pys lw (shw ka bf) (shw kw w))) w).2.2).1))) (congrArg Value.int ((u2_h (by omega)).trans ((u2_h (by omega)).trans hm1))) ?_
          refine q_iadd hc d_TU_choose_159 ?_
          refine r_iast hc hw (h := 37 + sd) (n := 41) (i := bf) (fun f => wt_tuW g (by omega) f) (by omega) (by omega) (by decide) d_TU_choose_160 (fun H locs hw => ?_)
          exact W_v hc hw hr hlocks (by
      rw [← hwe]
      refine ⟨rfl, rfl, (u2_h (by omega)).trans ((u2_h (by omega)).trans (u2_same _ _ _ _)), (u2_h (by omega)).trans (u2_same _ _ _ _), (u2_same _ _ _ _).trans (congrArg nI ?_), fun h z hh => ?_⟩
      · exact (by rw [tbs_2n hz9]; exact Nat.add_comm _ _)
      · rw [u2_ij2 (by omega), u2_ij2 (by omega), u2_ij2 (by omega)]) d_TU_choose_161
        · have hz9 : (tbs (fine, 0, 0) (fun w => ((nx w).2 + pys lw (shw kw w) (shw ka bf), (nx w).1 + pys lw (shw ka bf) (shw kw w))) w).2.2 = 0 := c_2
          refine lv_iconst (v := nI 0) hx hb d_TU_choose_127 (by decide) ?_
          refine lv_goto (tgt := 160) hx hb d_TU_choose_128 (by decide) ?_
          refine r_iast hc hw (h := 37 + sd) (n := 41) (i := bf) (fun f => wt_tuW g (by omega) f) (by omega) (by omega) (by decide) d_TU_choose_160 (fun H locs hw => ?_)
          exact W_v hc hw hr hlocks (by
      rw [← hwe]
      refine ⟨rfl, rfl, (u2_h (by omega)).trans ((u2_h (by omega)).trans (u2_same _ _ _ _)), (u2_h (by omega)).trans (u2_same _ _ _ _), (u2_same _ _ _ _).trans (congrArg nI ?_), fun h z hh => ?_⟩
      · exact (tbs_2z hz9).symm
      · rw [u2_ij2 (by omega), u2_ij2 (by omega), u2_ij2 (by omega)]) d_TU_choose_161
      · have hsw := shw_le (k := kw) (w := w + 1) (by omega)
        have hpy := pys_le lw (shw kw (w + 1)) (shw ka bf)
        obtain ⟨hn1, hn2, hn3, hn4⟩ := hnx (w + 1) (by omega) (by omega)
        refine lv_aload_n hx hb d_TU_choose_43 rfl (lv_at hl 0 rfl) ?_
        refine gf_TU_36 hc hw d_TU_choose_44 (v := .int (nI lw)) (congrArg Value.int h7) ?_
        refine lv_aload_n hx hb d_TU_choose_47 rfl (lv_at hl 0 rfl) ?_
        refine gf_TU_22 hc hw d_TU_choose_48 ?_
        refine lv_iload_n hx hb d_TU_choose_51 rfl (lv_at hl 3 rfl) ?_
        refine r_aldA hc hw (h := 39) (n := 2) (i := sd) (t0 := 3) rfl (by omega) rfl (by omega) (by decide) d_TU_choose_52 (v := .ref (wad g (40 + sd))) (show va_rf (wrow g 40 2 sd) = _ from by rw [wrow_at (by omega)]; rfl) ?_
        refine lv_iload hx hb d_TU_choose_53 (lv_at hl 8 rfl) ?_
        refine r_iald hc hw (h := 40 + sd) (n := 41) (i := w + 1) (fun f => wt_tuS g (by omega) f) (by omega) (by omega) (by decide) d_TU_choose_55 (v := .int (nI (shw kw (w + 1)))) (congrArg Value.int (hsh (w + 1) (by omega) (by omega))) ?_
        refine lv_iload hx hb d_TU_choose_56 (lv_at hl 5 rfl) ?_
        refine kRN hc hw lk_TU_65 (As := [.int (nI lw), .int (nI (shw kw (w + 1))), .int (nI (shw ka bf))]) (rest := []) (c_AP_pays l D g _ (lw) (shw kw (w + 1)) (shw ka bf) (by omega) (by omega) (by omega)) ⟨Nat.le_of_ble_eq_true rfl, Nat.le_of_ble_eq_true rfl⟩ ⟨Nat.le_refl _, Nat.le_refl _⟩ rfl hl rfl (Nat.le_of_ble_eq_true rfl) d_TU_choose_58 ?_
        refine lv_aload_n hx hb d_TU_choose_61 rfl (lv_at hl 0 rfl) ?_
        refine gf_TU_19 hc hw d_TU_choose_62 ?_
        refine lv_iload hx hb d_TU_choose_65 (lv_at hl 4 rfl) ?_
        refine r_aldA hc hw (h := 36) (n := 2) (i := 1 - sd) (t0 := 3) rfl (by omega) rfl (by omega) (by decide) d_TU_choose_67 (v := .ref (wad g (37 + (1 - sd)))) (show va_rf (wrow g 37 2 (1 - sd)) = _ from by rw [wrow_at (by omega)]; rfl) ?_
        refine lv_iload hx hb d_TU_choose_68 (lv_at hl 8 rfl) ?_
        refine r_iald hc hw (h := 37 + (1 - sd)) (n := 41) (i := w + 1) (fun f => wt_tuW g (by omega) f) (by omega) (by omega) (by decide) d_TU_choose_70 (v := .int (nI ((nx (w + 1)).2))) (congrArg Value.int hn2) ?_
        refine q_iadd hc d_TU_choose_71 ?_
        refine lv_istore (lv' := [(9, .int (nI ((pys lw (shw kw (w + 1)) (shw ka bf)) + ((nx (w + 1)).2)))), (0, .ref (wad g 23)), (1, .int (nI k)), (2, .int (nI bf)), (3, .int (nI sd)), (4, .int (nI (1 - sd))), (5, .int (nI (shw ka bf))), (6, .int (nI ((tbs (fine, 0, 0) (fun w => ((nx w).2 + pys lw (shw kw w) (shw ka bf), (nx w).1 + pys lw (shw ka bf) (shw kw w))) w).1))), (7, .int (nI ((tbs (fine, 0, 0) (fun w => ((nx w).2 + pys lw (shw kw w) (shw ka bf), (nx w).1 + pys lw (shw ka bf) (shw kw w))) w).2.2))), (8, .int (nI (w + 1)))]) hx hb d_TU_choose_72 hl (by decide) rfl (fun ls hl => ?_)
        refine lv_iload hx hb d_TU_choose_74 (lv_at hl 0 rfl) ?_
        refine lv_iload hx hb d_TU_choose_76 (lv_at hl 7 rfl) ?_
        refine q_icmp_ge (tgt := 89) hc (by omega) (by omega) d_TU_choose_78 (by decide) (fun c_3 => ?_) (fun c_3 => ?_)
        · have hbs := tbs_f (st := (fine, 0, 0)) (f := (fun w => ((nx w).2 + pys lw (shw kw w) (shw ka bf), (nx w).1 + pys lw (shw ka bf) (shw kw w)))) (n := w) (by show ¬ _ < _; omega)
          refine lv_iinc (v := nI ((w + 1) + 1)) (lv' := [(8, .int (nI ((w + 1) + 1))), (9, .int (nI ((pys lw (shw kw (w + 1)) (shw ka bf)) + ((nx (w + 1)).2)))), (0, .ref (wad g 23)), (1, .int (nI k)), (2, .int (nI bf)), (3, .int (nI sd)), (4, .int (nI (1 - sd))), (5, .int (nI (shw ka bf))), (6, .int (nI ((tbs (fine, 0, 0) (fun w => ((nx w).2 + pys lw (shw kw w) (shw ka bf), (nx w).1 + pys lw (shw ka bf) (shw kw w))) w).1))), (7, .int (nI ((tbs (fine, 0, 0) (fun w => ((nx w).2 + pys lw (shw kw w) (shw ka bf), (nx w).1 + pys lw (shw ka bf) (shw kw w))) w).2.2)))]) hx hb d_TU_choose_89 hl (k := 9) rfl (nI_inc1 _) (by decide) rfl (fun ls hl => ?_)
          refine lv_goto (tgt := 32) hx hb d_TU_choose_92 (by decide) ?_
          have hl : lv_has ls 10 [(8, .int (nI ((w + 1) + 1))), (9, .int (nI ((pys lw (shw kw (w + 1)) (shw ka bf)) + ((nx (w + 1)).2)))), (0, .ref (wad g 23)), (1, .int (nI k)), (2, .int (nI bf)), (3, .int (nI sd)), (4, .int (nI (1 - sd))), (5, .int (nI (shw ka bf))), (6, .int (nI ((tbs (fine, 0, 0) (fun w => ((nx w).2 + pys lw (shw kw w) (shw ka bf), (nx w).1 + pys lw (shw ka bf) (shw kw w))) (w + 1)).1))), (7, .int (nI ((tbs (fine, 0, 0) (fun w => ((nx w).2 + pys lw (shw kw w) (shw ka bf), (nx w).1 + pys lw (shw ka bf) (shw kw w))) w).2.2)))] := by rw [show (tbs (fine, 0, 0) (fun w => ((nx w).2 + pys lw (shw kw w) (shw ka bf), (nx w).1 + pys lw (shw ka bf) (shw kw w))) (w + 1)).1 = (tbs (fine, 0, 0) (fun w => ((nx w).2 + pys lw (shw kw w) (shw ka bf), (nx w).1 + pys lw (shw ka bf) (shw kw w))) w).1 from by rw [hbs]]; exact hl
          have hl : lv_has ls 10 [(8, .int (nI ((w + 1) + 1))), (9, .int (nI ((pys lw (shw kw (w + 1)) (shw ka bf)) + ((nx (w + 1)).2)))), (0, .ref (wad g 23)), (1, .int (nI k)), (2, .int (nI bf)), (3, .int (nI sd)), (4, .int (nI (1 - sd))), (5, .int (nI (shw ka bf))), (6, .int (nI ((tbs (fine, 0, 0) (fun w => ((nx w).2 + pys lw (shw kw w) (shw ka bf), (nx w).1 + pys lw (shw ka bf) (shw kw w))) (w + 1)).1))), (7, .int (nI ((tbs (fine, 0, 0) (fun w => ((nx w).2 + pys lw (shw kw w) (shw ka bf), (nx w).1 + pys lw (shw ka bf) (shw kw w))) (w + 1)).2.2)))] := by rw [show (tbs (fine, 0, 0) (fun w => ((nx w).2 + pys lw (shw kw w) (shw ka bf), (nx w).1 + pys lw (shw ka bf) (shw kw w))) (w + 1)).2.2 = (tbs (fine, 0, 0) (fun w => ((nx w).2 + pys lw (shw kw w) (shw ka bf), (nx w).1 + pys lw (shw ka bf) (shw kw w))) w).2.2 from by rw [hbs]]; exact hl
          exact ih_32 (w + 1) _ _ _ (by omega) (by omega) hw (lv_sub hl [2, 3, 4, 5, 6, 7, 8, 9, 0] rfl)
        · have hbs := tbs_t (st := (fine, 0, 0)) (f := (fun w => ((nx w).2 + pys lw (shw kw w) (shw ka bf), (nx w).1 + pys lw (shw ka bf) (shw kw w)))) (n := w) (by show _ < _; omega)
          refine lv_iload hx hb d_TU_choose_81 (lv_at hl 0 rfl) ?_
          refine lv_istore (lv' := [(6, .int (nI ((pys lw (shw kw (w + 1)) (shw ka bf)) + ((nx (w + 1)).2)))), (9, .int (nI ((pys lw (shw kw (w + 1)) (shw ka bf)) + ((nx (w + 1)).2)))), (0, .ref (wad g 23)), (1, .int (nI k)), (2, .int (nI bf)), (3, .int (nI sd)), (4, .int (nI (1 - sd))), (5, .int (nI (shw ka bf))), (7, .int (nI ((tbs (fine, 0, 0) (fun w => ((nx w).2 + pys lw (shw kw w) (shw ka bf), (nx w).1 + pys lw (shw ka bf) (shw kw w))) w).2.2))), (8, .int (nI (w + 1)))]) hx hb d_TU_choose_83 hl (by decide) rfl (fun ls hl => ?_)
          refine lv_iload hx hb d_TU_choose_85 (lv_at hl 9 rfl) ?_
          refine lv_istore (lv' := [(7, .int (nI (w + 1))), (6, .int (nI ((pys lw (shw kw (w + 1)) (shw ka bf)) + ((nx (w + 1)).2)))), (9, .int (nI ((pys lw (shw kw (w + 1)) (shw ka bf)) + ((nx (w + 1)).2)))), (0, .ref (wad g 23)), (1, .int (nI k)), (2, .int (nI bf)), (3, .int (nI sd)), (4, .int (nI (1 - sd))), (5, .int (nI (shw ka bf))), (8, .int (nI (w + 1)))]) hx hb d_TU_choose_87 hl (by decide) rfl (fun ls hl => ?_)
          refine lv_iinc (v := nI ((w + 1) + 1)) (lv' := [(8, .int (nI ((w + 1) + 1))), (7, .int (nI (w + 1))), (6, .int (nI ((pys lw (shw kw (w + 1)) (shw ka bf)) + ((nx (w + 1)).2)))), (9, .int (nI ((pys lw (shw kw (w + 1)) (shw ka bf)) + ((nx (w + 1)).2)))), (0, .ref (wad g 23)), (1, .int (nI k)), (2, .int (nI bf)), (3, .int (nI sd)), (4, .int (nI (1 - sd))), (5, .int (nI (shw ka bf)))]) hx hb d_TU_choose_89 hl (k := 9) rfl (nI_inc1 _) (by decide) rfl (fun ls hl => ?_)
          refine lv_goto (tgt := 32) hx hb d_TU_choose_92 (by decide) ?_
          have hl : lv_has ls 10 [(8, .int (nI ((w + 1) + 1))), (7, .int (nI (w + 1))), (6, .int (nI ((tbs (fine, 0, 0) (fun w => ((nx w).2 + pys lw (shw kw w) (shw ka bf), (nx w).1 + pys lw (shw ka bf) (shw kw w))) (w + 1)).1))), (9, .int (nI ((pys lw (shw kw (w + 1)) (shw ka bf)) + ((nx (w + 1)).2)))), (0, .ref (wad g 23)), (1, .int (nI k)), (2, .int (nI bf)), (3, .int (nI sd)), (4, .int (nI (1 - sd))), (5, .int (nI (shw ka bf)))] := by rw [show (tbs (fine, 0, 0) (fun w => ((nx w).2 + pys lw (shw kw w) (shw ka bf), (nx w).1 + pys lw (shw ka bf) (shw kw w))) (w + 1)).1 = (pys lw (shw kw (w + 1)) (shw ka bf)) + ((nx (w + 1)).2) from by (rw [hbs]; exact Nat.add_comm _ _)]; exact hl
          have hl : lv_has ls 10 [(8, .int (nI ((w + 1) + 1))), (7, .int (nI ((tbs (fine, 0, 0) (fun w => ((nx w).2 + pys lw (shw kw w) (shw ka bf), (nx w).1 + pys lw (shw ka bf) (shw kw w))) (w + 1)).2.2))), (6, .int (nI ((tbs (fine, 0, 0) (fun w => ((nx w).2 + pys lw (shw kw w) (shw ka bf), (nx w).1 + pys lw (shw ka bf) (shw kw w))) (w + 1)).1))), (9, .int (nI ((pys lw (shw kw (w + 1)) (shw ka bf)) + ((nx (w + 1)).2)))), (0, .ref (wad g 23)), (1, .int (nI k)), (2, .int (nI bf)), (3, .int (nI sd)), (4, .int (nI (1 - sd))), (5, .int (nI (shw ka bf)))] := by rw [show (tbs (fine, 0, 0) (fun w => ((nx w).2 + pys lw (shw kw w) (shw ka bf), (nx w).1 + pys lw (shw ka bf) (shw kw w))) (w + 1)).2.2 = w + 1 from by rw [hbs]]; exact hl
          exact ih_32 (w + 1) _ _ _ (by omega) (by omega) hw (lv_sub hl [4, 5, 6, 7, 8, 9, 2, 1, 0] rfl)
  have hl : lv_has ls 10 [(8, .int (nI 1)), (7, .int (nI 0)), (6, .int (nI ((tbs (fine, 0, 0) (fun w => ((nx w).2 + pys lw (shw kw w) (shw ka bf), (nx w).1 + pys lw (shw ka bf) (shw kw w))) 0).1))), (5, .int (nI (shw ka bf))), (4, .int (nI (1 - sd))), (3, .int (nI sd)), (0, .ref (wad g 23)), (1, .int (nI k)), (2, .int (nI bf))] := by rw [show (tbs (fine, 0, 0) (fun w => ((nx w).2 + pys lw (shw kw w) (shw ka bf), (nx w).1 + pys lw (shw ka bf) (shw kw w))) 0).1 = fine from by rfl]; exact hl
  have hl : lv_has ls 10 [(8, .int (nI 1)), (7, .int (nI ((tbs (fine, 0, 0) (fun w => ((nx w).2 + pys lw (shw kw w) (shw ka bf), (nx w).1 + pys lw (shw ka bf) (shw kw w))) 0).2.2))), (6, .int (nI ((tbs (fine, 0, 0) (fun w => ((nx w).2 + pys lw (shw kw w) (shw ka bf), (nx w).1 + pys lw (shw ka bf) (shw kw w))) 0).1))), (5, .int (nI (shw ka bf))), (4, .int (nI (1 - sd))), (3, .int (nI sd)), (0, .ref (wad g 23)), (1, .int (nI k)), (2, .int (nI bf))] := by rw [show (tbs (fine, 0, 0) (fun w => ((nx w).2 + pys lw (shw kw w) (shw ka bf), (nx w).1 + pys lw (shw ka bf) (shw kw w))) 0).2.2 = 0 from by rfl]; exact hl
  have hl : lv_has ls 10 [(8, .int (nI (0 + 1))), (7, .int (nI ((tbs (fine, 0, 0) (fun w => ((nx w).2 + pys lw (shw kw w) (shw ka bf), (nx w).1 + pys lw (shw ka bf) (shw kw w))) 0).2.2))), (6, .int (nI ((tbs (fine, 0, 0) (fun w => ((nx w).2 + pys lw (shw kw w) (shw ka bf), (nx w).1 + pys lw (shw ka bf) (shw kw w))) 0).1))), (5, .int (nI (shw ka bf))), (4, .int (nI (1 - sd))), (3, .int (nI sd)), (0, .ref (wad g 23)), (1, .int (nI k)), (2, .int (nI bf))] := by rw [show 0 + 1 = 1 from by rfl]; exact hl
  exact loop_32 _ 0 _ _ _ (Nat.lt_succ_self _) (by omega) hw (lv_sub hl [6, 7, 8, 5, 4, 3, 2, 1, 0] rfl)
set_option maxHeartbeats 4000000 in
theorem c_TU_write (l : Launch) (D : va_G) (g : wG) (F : wF) (n l1 : Nat) (nx : Nat → Nat × Nat) (cw : Nat → Nat) (hn1 : 1 ≤ n) (hn8 : n ≤ 8) (h1 : 1 ≤ l1) (hl1 : l1 ≤ 40) (h42 : F 42 0 = nI l1) (hnx : ∀ w, 1 ≤ w → w ≤ l1 → F 35 w = nI (nx w).1 ∧ F 38 w = nI (nx w).2 ∧ (nx w).1 ≤ 1000000 ∧ (nx w).2 ≤ 1000000) (hcw0 : cw 0 = (tbs (1000000000, 0, 0) (fun w => ((nx w).2, (nx w).1)) l1).2.2) (hcw : ∀ q, q + 1 < n → cw q ≠ 0 → F (25 + (q + 1)) (cw q) = nI (cw (q + 1))) (hc40 : ∀ q, cw q ≤ 40) : CW l y_TU_write b_TU_write 4 (Option.none) 0 0 0 D g F [.ref (wad g 23), .int (nI n)] (fun v g2 u => v = none ∧ g = g2 ∧ u 23 9 = nI (tbs (1000000000, 0, 0) (fun w => ((nx w).2, (nx w).1)) l1).1 ∧ u 23 10 = nI (tbs (1000000000, 0, 0) (fun w => ((nx w).2, (nx w).1)) l1).2.1 ∧ (∃ ck, ck ≤ n ∧ (∀ j, j < ck → cw j ≠ 0) ∧ (ck < n → cw ck = 0) ∧ u 23 8 = nI ck ∧ ∀ j, j < ck → u 43 j = nI (cw j)) ∧ ∀ k z, ¬ (k = 23 ∧ (z = 8 ∨ z = 9 ∨ z = 10)) → k ≠ 43 → u k z = F k z) := by
  refine CW.start rfl (Nat.le_of_ble_eq_true rfl) ?_
  intro p e s m args below meth c A ls hc hr hlocks hw hl
  have hl : lv_has ls 4 [(0, .ref (wad g 23)), (1, .int (nI n))] := hl
  have hx := hc.1
  have hb := hc.2.1
  have hit := fun v => tbs_hit (x := 1000000000) (f := (fun w => ((nx w).2, (nx w).1))) (by have := (hnx 1 (by omega) h1).2.2.2; show (nx 1).2 < _; omega) v
  refine lv_iconst (v := nI 1) hx hb d_TU_write_0 (by decide) ?_
  refine lv_istore_n (lv' := [(2, .int (nI 1)), (0, .ref (wad g 23)), (1, .int (nI n))]) hx hb d_TU_write_1 rfl hl (by decide) rfl (fun ls hl => ?_)
  refine lv_iconst (v := nI 2) hx hb d_TU_write_2 (by decide) ?_
  refine lv_istore_n (lv' := [(3, .int (nI 2)), (2, .int (nI 1)), (0, .ref (wad g 23)), (1, .int (nI n))]) hx hb d_TU_write_3 rfl hl (by decide) rfl (fun ls hl => ?_)
  have loop_4 : ∀ (n_4 : Nat) (i : Nat)  (H : Heap) (locs : List Loc) (ls : Array Slot), (l1 - i) < n_4 → (i + 1 ≤ l1) → Wd D g F A s.heap H locs s → lv_has ls 4 [(0, .ref (wad g 23)), (1, .int (nI n)), (2, .int (nI ((tbs (1000000000, 0, 0) (fun w => ((nx w).2, (nx w).1)) (i + 1)).2.2))), (3, .int (nI (i + 2)))] → W p l e (rmc 0 0 0) s m args below meth c H locs 0 0 (MQ below (Qw (fun v g2 u => v = none ∧ g = g2 ∧ u 23 9 = nI (tbs (1000000000, 0, 0) (fun w => ((nx w).2, (nx w).1)) l1).1 ∧ u 23 10 = nI (tbs (1000000000, 0, 0) (fun w => ((nx w).2, (nx w).1)) l1).2.1 ∧ (∃ ck, ck ≤ n ∧ (∀ j, j < ck → cw j ≠ 0) ∧ (ck < n → cw ck = 0) ∧ u 23 8 = nI ck ∧ ∀ j, j < ck → u 43 j = nI (cw j)) ∧ ∀ k z, ¬ (k = 23 ∧ (z = 8 ∨ z = 9 ∨ z = 10)) → k ≠ 43 → u k z = F k z) (Bw D A) A) args s 0 0 A) (F0 m 4 ls []) := by
    intro n_4
    induction n_4 with
    | zero => intro i  H locs ls hm; exact absurd hm (Nat.not_lt_zero _)
    | succ n_4 ih_4 =>
      intro i  H locs ls hm_4 hi hw hl
      obtain ⟨ht1, ht2, ht3, ht4⟩ := hit i
      have htb : (tbs (1000000000, 0, 0) (fun w => ((nx w).2, (nx w).1)) (i + 1)).1 ≤ 1000000000 := tbs_le _
      refine lv_iload_n hx hb d_TU_write_4 rfl (lv_at hl 3 rfl) ?_
      refine lv_aload_n hx hb d_TU_write_5 rfl (lv_at hl 0 rfl) ?_
      refine gf_TU_25 hc hw d_TU_write_6 ?_
      refine lv_iconst (v := nI 0) hx hb d_TU_write_9 (by decide) ?_
      refine r_iald hc hw (h := 42) (n := 2) (i := 0) (fun _ => rfl) (by omega) (by omega) (by decide) d_TU_write_10 (v := .int (nI l1)) (congrArg Value.int (h42)) ?_
      refine q_icmp_gt (tgt := 41) hc (by omega) (by omega) d_TU_write_11 (by decide) (fun c_1 => ?_) (fun c_1 => ?_)
      · have hie : i + 1 = l1 := by omega
        refine lv_aload_n hx hb d_TU_write_41 rfl (lv_at hl 0 rfl) ?_
        refine lv_aload_n hx hb d_TU_write_42 rfl (lv_at hl 0 rfl) ?_
        refine gf_TU_19 hc hw d_TU_write_43 ?_
        refine lv_iconst (v := nI 1) hx hb d_TU_write_46 (by decide) ?_
        refine r_aldA hc hw (h := 36) (n := 2) (i := 1) (t0 := 3) rfl (by omega) rfl (by omega) (by decide) d_TU_write_47 (v := .ref (wad g (37 + 1))) (show va_rf (wrow g 37 2 1) = _ from by rw [wrow_at (by omega)]; rfl) ?_
        refine lv_iload_n hx hb d_TU_write_48 rfl (lv_at hl 2 rfl) ?_
        refine r_iald hc hw (h := 37 + 1) (n := 41) (i := (tbs (1000000000, 0, 0) (fun w => ((nx w).2, (nx w).1)) (i + 1)).2.2) (fun f => wt_tuW g (by omega) f) (by omega) (by omega) (by decide) d_TU_write_49 (v := .int (nI ((tbs (1000000000, 0, 0) (fun w => ((nx w).2, (nx w).1)) (i + 1)).1))) (congrArg Value.int ((hnx _ ht1 (by omega)).2.1.trans (congrArg nI ht3))) ?_
        refine pf_TU_69 hc hw d_TU_write_50 (fun H locs hw => ?_)
        refine lv_aload_n hx hb d_TU_write_53 rfl (lv_at hl 0 rfl) ?_
        refine lv_aload_n hx hb d_TU_write_54 rfl (lv_at hl 0 rfl) ?_
        refine gf_TU_16 hc hw d_TU_write_55 ?_
        refine lv_iconst (v := nI 1) hx hb d_TU_write_58 (by decide) ?_
        refine r_aldA hc hw (h := 33) (n := 2) (i := 1) (t0 := 3) rfl (by omega) rfl (by omega) (by decide) d_TU_write_59 (v := .ref (wad g (34 + 1))) (show va_rf (wrow g 34 2 1) = _ from by rw [wrow_at (by omega)]; rfl) ?_
        refine lv_iload_n hx hb d_TU_write_60 rfl (lv_at hl 2 rfl) ?_
        refine r_iald hc hw (h := 34 + 1) (n := 41) (i := (tbs (1000000000, 0, 0) (fun w => ((nx w).2, (nx w).1)) (i + 1)).2.2) (fun f => wt_tuI g (by omega) f) (by omega) (by omega) (by decide) d_TU_write_61 (v := .int (nI ((tbs (1000000000, 0, 0) (fun w => ((nx w).2, (nx w).1)) (i + 1)).2.1))) (congrArg Value.int ((u2_h (by decide)).trans ((hnx _ ht1 (by omega)).1.trans (congrArg nI ht4)))) ?_
        refine pf_TU_72 hc hw d_TU_write_62 (fun H locs hw => ?_)
        refine lv_aload_n hx hb d_TU_write_65 rfl (lv_at hl 0 rfl) ?_
        refine gf_TU_29 hc hw d_TU_write_66 ?_
        refine lv_iconst (v := nI 0) hx hb d_TU_write_69 (by decide) ?_
        refine lv_iload_n hx hb d_TU_write_70 rfl (lv_at hl 2 rfl) ?_
        refine r_iast hc hw (h := 43) (n := 8) (i := 0) (fun _ => rfl) (by omega) (by omega) (by decide) d_TU_write_71 (fun H locs hw => ?_)
        refine lv_aload_n hx hb d_TU_write_72 rfl (lv_at hl 0 rfl) ?_
        refine lv_iconst (v := nI 1) hx hb d_TU_write_73 (by decide) ?_
        refine pf_TU_75 hc hw d_TU_write_74 (fun H locs hw => ?_)
        refine lv_iconst (v := nI 1) hx hb d_TU_write_77 (by decide) ?_
        refine lv_istore_n (lv' := [(3, .int (nI 1)), (0, .ref (wad g 23)), (1, .int (nI n)), (2, .int (nI ((tbs (1000000000, 0, 0) (fun w => ((nx w).2, (nx w).1)) (i + 1)).2.2)))]) hx hb d_TU_write_78 rfl hl (by decide) rfl (fun ls hl => ?_)
        have loop_79 : ∀ (n_79 : Nat) (q : Nat) (F1 : wF) (H : Heap) (locs : List Loc) (ls : Array Slot), (n - q) < n_79 → (q + 1 ≤ n) → (∀ j, j < q → cw j ≠ 0) → (F1 23 8 = nI (if cw q = 0 then q else q + 1)) → (∀ j, j ≤ q → F1 43 j = nI (cw j)) → (F1 23 9 = nI (tbs (1000000000, 0, 0) (fun w => ((nx w).2, (nx w).1)) l1).1) → (F1 23 10 = nI (tbs (1000000000, 0, 0) (fun w => ((nx w).2, (nx w).1)) l1).2.1) → (∀ k z, ¬ (k = 23 ∧ (z = 8 ∨ z = 9 ∨ z = 10)) → k ≠ 43 → F1 k z = F k z) → Wd D g F1 A s.heap H locs s → lv_has ls 4 [(0, .ref (wad g 23)), (1, .int (nI n)), (2, .int (nI (cw q))), (3, .int (nI (q + 1)))] → W p l e (rmc 0 0 0) s m args below meth c H locs 0 0 (MQ below (Qw (fun v g2 u => v = none ∧ g = g2 ∧ u 23 9 = nI (tbs (1000000000, 0, 0) (fun w => ((nx w).2, (nx w).1)) l1).1 ∧ u 23 10 = nI (tbs (1000000000, 0, 0) (fun w => ((nx w).2, (nx w).1)) l1).2.1 ∧ (∃ ck, ck ≤ n ∧ (∀ j, j < ck → cw j ≠ 0) ∧ (ck < n → cw ck = 0) ∧ u 23 8 = nI ck ∧ ∀ j, j < ck → u 43 j = nI (cw j)) ∧ ∀ k z, ¬ (k = 23 ∧ (z = 8 ∨ z = 9 ∨ z = 10)) → k ≠ 43 → u k z = F k z) (Bw D A) A) args s 0 0 A) (F0 m 79 ls []) := by
          intro n_79
          induction n_79 with
          | zero => intro q F1 H locs ls hm; exact absurd hm (Nat.not_lt_zero _)
          | succ n_79 ih_79 =>
            intro q F1 H locs ls hm_79 hqn hnz hwr hwt h9f h9o zhF1 hw hl
            have hc5 := hc40 q
            refine lv_iload_n hx hb d_TU_write_79 rfl (lv_at hl 3 rfl) ?_
            refine lv_iload_n hx hb d_TU_write_80 rfl (lv_at hl 1 rfl) ?_
            refine q_icmp_ge (tgt := 128) hc (by omega) (by omega) d_TU_write_81 (by decide) (fun c_2 => ?_) (fun c_2 => ?_)
            · exact W_v hc hw hr hlocks (⟨rfl, rfl, h9f, h9o, (by by_cases h9 : cw q = 0; (rw [if_pos h9] at hwr; exact ⟨q, by omega, hnz, fun _ => h9, hwr, fun j hj => hwt j (by omega)⟩); (rw [if_neg h9] at hwr; exact ⟨q + 1, by omega, fun j hj => by rcases (show j < q ∨ j = q by omega) with e9 | e9; exact hnz j e9; (rw [e9]; exact h9), by intro h; omega, hwr, fun j hj => hwt j (by omega)⟩)), zhF1⟩) d_TU_write_128
            · refine lv_iload_n hx hb d_TU_write_84 rfl (lv_at hl 2 rfl) ?_
              refine q_if_eq (tgt := 128) hc (by omega) d_TU_write_85 (by decide) (fun c_3 => ?_) (fun c_3 => ?_)
              · exact W_v hc hw hr hlocks (⟨rfl, rfl, h9f, h9o, (by by_cases h9 : cw q = 0; (rw [if_pos h9] at hwr; exact ⟨q, by omega, hnz, fun _ => h9, hwr, fun j hj => hwt j (by omega)⟩); (rw [if_neg h9] at hwr; exact ⟨q + 1, by omega, fun j hj => by rcases (show j < q ∨ j = q by omega) with e9 | e9; exact hnz j e9; (rw [e9]; exact h9), by intro h; omega, hwr, fun j hj => hwt j (by omega)⟩)), zhF1⟩) d_TU_write_128
              · have hcq : cw q ≠ 0 := c_3
                have hc4 := hc40 q
                refine lv_aload_n hx hb d_TU_write_88 rfl (lv_at hl 0 rfl) ?_
                refine gf_TU_11 hc hw d_TU_write_89 ?_
                refine lv_iload_n hx hb d_TU_write_92 rfl (lv_at hl 3 rfl) ?_
                refine r_aldA hc hw (h := 24) (n := 8) (i := q + 1) (t0 := 3) rfl (by omega) rfl (by omega) (by decide) d_TU_write_93 (v := .ref (wad g (25 + (q + 1)))) (show va_rf (wrow g 25 8 (q + 1)) = _ from by rw [wrow_at (by omega)]; rfl) ?_
                refine lv_iload_n hx hb d_TU_write_94 rfl (lv_at hl 2 rfl) ?_
                refine r_iald hc hw (h := 25 + (q + 1)) (n := 41) (i := cw q) (fun f => wt_tuC g (by omega) f) (by omega) (by omega) (by decide) d_TU_write_95 (v := .int (nI (cw (q + 1)))) (congrArg Value.int ((zhF1 _ _ (by omega) (by omega)).trans (hcw q (by omega) hcq))) ?_
                refine lv_istore_n (lv' := [(2, .int (nI (cw (q + 1)))), (0, .ref (wad g 23)), (1, .int (nI n)), (3, .int (nI (q + 1)))]) hx hb d_TU_write_96 rfl hl (by decide) rfl (fun ls hl => ?_)
                refine lv_aload_n hx hb d_TU_write_97 rfl (lv_at hl 1 rfl) ?_
                refine gf_TU_29 hc hw d_TU_write_98 ?_
                refine lv_iload_n hx hb d_TU_write_101 rfl (lv_at hl 3 rfl) ?_
                refine lv_iload_n hx hb d_TU_write_102 rfl (lv_at hl 0 rfl) ?_
                refine r_iast hc hw (h := 43) (n := 8) (i := q + 1) (fun _ => rfl) (by omega) (by omega) (by decide) d_TU_write_103 (fun H locs hw => ?_)
                refine lv_aload_n hx hb d_TU_write_104 rfl (lv_at hl 1 rfl) ?_
                refine lv_dup hx hb d_TU_write_105 rfl ?_
                refine gf_TU_75 hc hw d_TU_write_106 (v := .int (nI (q + 1))) (congrArg Value.int ((u2_h (by decide)).trans (hwr.trans (congrArg nI (if_neg hcq))))) ?_
                refine lv_iload_n hx hb d_TU_write_109 rfl (lv_at hl 0 rfl) ?_
                refine q_if_ne (tgt := 117) hc (Nat.lt_of_le_of_lt (hc40 (q + 1)) (by decide)) d_TU_write_110 (by decide) (fun c_4 => ?_) (fun c_4 => ?_)
                · have hcz : ¬ cw (q + 1) = 0 := c_4
                  refine lv_iconst (v := nI 1) hx hb d_TU_write_117 (by decide) ?_
                  refine q_iadd hc d_TU_write_118 ?_
                  refine pf_TU_75 hc hw d_TU_write_119 (fun H locs hw => ?_)
                  refine lv_iinc (v := nI ((q + 1) + 1)) (lv' := [(3, .int (nI ((q + 1) + 1))), (2, .int (nI (cw (q + 1)))), (0, .ref (wad g 23)), (1, .int (nI n))]) hx hb d_TU_write_122 hl (k := 3) rfl (nI_inc1 _) (by decide) rfl (fun ls hl => ?_)
                  refine lv_goto (tgt := 79) hx hb d_TU_write_125 (by decide) ?_
                  exact ih_79 (q + 1) _ _ _ _ (by omega) (by omega) (fun j hj => by rcases (show j < q ∨ j = q by omega) with e9 | e9; exact hnz j e9; (rw [e9]; exact hcq)) ((u2_same _ _ _ _).trans (congrArg nI (if_neg hcz).symm)) (fun j hj => by rw [u2_h (by decide)]; rcases (show j ≤ q ∨ j = q + 1 by omega) with e9 | e9; exact (u2_i (by omega)).trans (hwt j e9); (rw [e9]; exact u2_same _ _ _ _)) ((u2_i (by decide)).trans ((u2_h (by decide)).trans h9f)) ((u2_i (by decide)).trans ((u2_h (by decide)).trans h9o)) (fun k z h1 h2 => by rw [u2_ij2 (by omega), u2_h h2]; exact zhF1 k z h1 h2) hw (lv_sub hl [2, 3, 1, 0] rfl)
                · have hcz : cw (q + 1) = 0 := c_4
                  refine lv_iconst (v := nI 0) hx hb d_TU_write_113 (by decide) ?_
                  refine lv_goto (tgt := 118) hx hb d_TU_write_114 (by decide) ?_
                  refine q_iadd hc d_TU_write_118 ?_
                  refine pf_TU_75 hc hw d_TU_write_119 (fun H locs hw => ?_)
                  refine lv_iinc (v := nI ((q + 1) + 1)) (lv' := [(3, .int (nI ((q + 1) + 1))), (2, .int (nI (cw (q + 1)))), (0, .ref (wad g 23)), (1, .int (nI n))]) hx hb d_TU_write_122 hl (k := 3) rfl (nI_inc1 _) (by decide) rfl (fun ls hl => ?_)
                  refine lv_goto (tgt := 79) hx hb d_TU_write_125 (by decide) ?_
                  exact ih_79 (q + 1) _ _ _ _ (by omega) (by omega) (fun j hj => by rcases (show j < q ∨ j = q by omega) with e9 | e9; exact hnz j e9; (rw [e9]; exact hcq)) ((u2_same _ _ _ _).trans (congrArg nI (if_pos hcz).symm)) (fun j hj => by rw [u2_h (by decide)]; rcases (show j ≤ q ∨ j = q + 1 by omega) with e9 | e9; exact (u2_i (by omega)).trans (hwt j e9); (rw [e9]; exact u2_same _ _ _ _)) ((u2_i (by decide)).trans ((u2_h (by decide)).trans h9f)) ((u2_i (by decide)).trans ((u2_h (by decide)).trans h9o)) (fun k z h1 h2 => by rw [u2_ij2 (by omega), u2_h h2]; exact zhF1 k z h1 h2) hw (lv_sub hl [2, 3, 1, 0] rfl)
        have hl : lv_has ls 4 [(3, .int (nI 1)), (0, .ref (wad g 23)), (1, .int (nI n)), (2, .int (nI (cw 0)))] := by rw [show cw 0 = (tbs (1000000000, 0, 0) (fun w => ((nx w).2, (nx w).1)) (i + 1)).2.2 from by rw [hcw0, ← hie]]; exact hl
        have hl : lv_has ls 4 [(3, .int (nI (0 + 1))), (0, .ref (wad g 23)), (1, .int (nI n)), (2, .int (nI (cw 0)))] := by rw [show 0 + 1 = 1 from by rfl]; exact hl
        exact loop_79 _ 0 _ _ _ _ (Nat.lt_succ_self _) (by omega) (fun j hj => absurd hj (Nat.not_lt_zero j)) ((u2_same _ _ _ _).trans (congrArg nI (if_neg (show ¬ cw 0 = 0 from by rw [hcw0, ← hie]; omega)).symm)) (fun j hj => by rw [show j = 0 by omega]; exact (u2_h (by decide)).trans ((u2_same _ _ _ _).trans (congrArg nI (by rw [hcw0, ← hie])))) ((u2_i (by decide)).trans ((u2_h (by decide)).trans ((u2_i (by decide)).trans ((u2_same _ _ _ _).trans (congrArg nI (by rw [← hie])))))) ((u2_i (by decide)).trans ((u2_h (by decide)).trans ((u2_same _ _ _ _).trans (congrArg nI (by rw [← hie]))))) (fun k z h1 h2 => by rw [u2_ij2 (by omega), u2_h h2, u2_ij2 (by omega), u2_ij2 (by omega)]) hw (lv_sub hl [1, 2, 3, 0] rfl)
      · refine lv_aload_n hx hb d_TU_write_14 rfl (lv_at hl 0 rfl) ?_
        refine gf_TU_19 hc hw d_TU_write_15 ?_
        refine lv_iconst (v := nI 1) hx hb d_TU_write_18 (by decide) ?_
        refine r_aldA hc hw (h := 36) (n := 2) (i := 1) (t0 := 3) rfl (by omega) rfl (by omega) (by decide) d_TU_write_19 (v := .ref (wad g (37 + 1))) (show va_rf (wrow g 37 2 1) = _ from by rw [wrow_at (by omega)]; rfl) ?_
        refine lv_iload_n hx hb d_TU_write_20 rfl (lv_at hl 3 rfl) ?_
        refine r_iald hc hw (h := 37 + 1) (n := 41) (i := i + 2) (fun f => wt_tuW g (by omega) f) (by omega) (by omega) (by decide) d_TU_write_21 (v := .int (nI ((nx (i + 2)).2))) (congrArg Value.int (hnx (i + 2) (by omega) (by omega)).2.1) ?_
        have hn4 := (hnx (i + 2) (by omega) (by omega)).2.2.2
        refine lv_aload_n hx hb d_TU_write_22 rfl (lv_at hl 0 rfl) ?_
        refine gf_TU_19 hc hw d_TU_write_23 ?_
        refine lv_iconst (v := nI 1) hx hb d_TU_write_26 (by decide) ?_
        refine r_aldA hc hw (h := 36) (n := 2) (i := 1) (t0 := 3) rfl (by omega) rfl (by omega) (by decide) d_TU_write_27 (v := .ref (wad g (37 + 1))) (show va_rf (wrow g 37 2 1) = _ from by rw [wrow_at (by omega)]; rfl) ?_
        refine lv_iload_n hx hb d_TU_write_28 rfl (lv_at hl 2 rfl) ?_
        refine r_iald hc hw (h := 37 + 1) (n := 41) (i := (tbs (1000000000, 0, 0) (fun w => ((nx w).2, (nx w).1)) (i + 1)).2.2) (fun f => wt_tuW g (by omega) f) (by omega) (by omega) (by decide) d_TU_write_29 (v := .int (nI ((tbs (1000000000, 0, 0) (fun w => ((nx w).2, (nx w).1)) (i + 1)).1))) (congrArg Value.int ((hnx _ ht1 (by omega)).2.1.trans (congrArg nI ht3))) ?_
        refine q_icmp_ge (tgt := 35) hc (by omega) (by omega) d_TU_write_30 (by decide) (fun c_5 => ?_) (fun c_5 => ?_)
        · have hbs := tbs_f (st := (1000000000, 0, 0)) (f := (fun w => ((nx w).2, (nx w).1))) (n := i + 1) (by show ¬ (nx (i + 2)).2 < _; omega)
          refine lv_iinc (v := nI ((i + 2) + 1)) (lv' := [(3, .int (nI ((i + 2) + 1))), (0, .ref (wad g 23)), (1, .int (nI n)), (2, .int (nI ((tbs (1000000000, 0, 0) (fun w => ((nx w).2, (nx w).1)) (i + 1)).2.2)))]) hx hb d_TU_write_35 hl (k := 3) rfl (nI_inc1 _) (by decide) rfl (fun ls hl => ?_)
          refine lv_goto (tgt := 4) hx hb d_TU_write_38 (by decide) ?_
          have hl : lv_has ls 4 [(3, .int (nI ((i + 2) + 1))), (0, .ref (wad g 23)), (1, .int (nI n)), (2, .int (nI ((tbs (1000000000, 0, 0) (fun w => ((nx w).2, (nx w).1)) (i + 1 + 1)).2.2)))] := by rw [show (tbs (1000000000, 0, 0) (fun w => ((nx w).2, (nx w).1)) (i + 1 + 1)).2.2 = (tbs (1000000000, 0, 0) (fun w => ((nx w).2, (nx w).1)) (i + 1)).2.2 from by rw [hbs]]; exact hl
          have hl : lv_has ls 4 [(3, .int (nI (i + 1 + 2))), (0, .ref (wad g 23)), (1, .int (nI n)), (2, .int (nI ((tbs (1000000000, 0, 0) (fun w => ((nx w).2, (nx w).1)) (i + 1 + 1)).2.2)))] := by rw [show i + 1 + 2 = (i + 2) + 1 from by omega]; exact hl
          exact ih_4 (i + 1) _ _ _ (by omega) (by omega) hw (lv_sub hl [1, 2, 3, 0] rfl)
        · have hbs := tbs_t (st := (1000000000, 0, 0)) (f := (fun w => ((nx w).2, (nx w).1))) (n := i + 1) (by show (nx (i + 2)).2 < _; omega)
          refine lv_iload_n hx hb d_TU_write_33 rfl (lv_at hl 3 rfl) ?_
          refine lv_istore_n (lv' := [(2, .int (nI (i + 2))), (0, .ref (wad g 23)), (1, .int (nI n)), (3, .int (nI (i + 2)))]) hx hb d_TU_write_34 rfl hl (by decide) rfl (fun ls hl => ?_)
          refine lv_iinc (v := nI ((i + 2) + 1)) (lv' := [(3, .int (nI ((i + 2) + 1))), (2, .int (nI (i + 2))), (0, .ref (wad g 23)), (1, .int (nI n))]) hx hb d_TU_write_35 hl (k := 3) rfl (nI_inc1 _) (by decide) rfl (fun ls hl => ?_)
          refine lv_goto (tgt := 4) hx hb d_TU_write_38 (by decide) ?_
          have hl : lv_has ls 4 [(3, .int (nI ((i + 2) + 1))), (2, .int (nI ((tbs (1000000000, 0, 0) (fun w => ((nx w).2, (nx w).1)) (i + 1 + 1)).2.2))), (0, .ref (wad g 23)), (1, .int (nI n))] := by rw [show (tbs (1000000000, 0, 0) (fun w => ((nx w).2, (nx w).1)) (i + 1 + 1)).2.2 = i + 2 from by rw [hbs]]; exact hl
          have hl : lv_has ls 4 [(3, .int (nI (i + 1 + 2))), (2, .int (nI ((tbs (1000000000, 0, 0) (fun w => ((nx w).2, (nx w).1)) (i + 1 + 1)).2.2))), (0, .ref (wad g 23)), (1, .int (nI n))] := by rw [show i + 1 + 2 = (i + 2) + 1 from by omega]; exact hl
          exact ih_4 (i + 1) _ _ _ (by omega) (by omega) hw (lv_sub hl [2, 3, 1, 0] rfl)
  have hl : lv_has ls 4 [(3, .int (nI 2)), (2, .int (nI ((tbs (1000000000, 0, 0) (fun w => ((nx w).2, (nx w).1)) (0 + 1)).2.2))), (0, .ref (wad g 23)), (1, .int (nI n))] := by rw [show (tbs (1000000000, 0, 0) (fun w => ((nx w).2, (nx w).1)) (0 + 1)).2.2 = 1 from by (have := (hit 0).1; have := (hit 0).2.1; omega)]; exact hl
  have hl : lv_has ls 4 [(3, .int (nI (0 + 2))), (2, .int (nI ((tbs (1000000000, 0, 0) (fun w => ((nx w).2, (nx w).1)) (0 + 1)).2.2))), (0, .ref (wad g 23)), (1, .int (nI n))] := by rw [show 0 + 2 = 2 from by rfl]; exact hl
  exact loop_4 _ 0 _ _ _ (Nat.lt_succ_self _) (by omega) hw (lv_sub hl [2, 3, 1, 0] rfl)
set_option maxHeartbeats 4000000 in
theorem c_TU_play (l : Launch) (D : va_G) (g : wG) (F : wF) (a b n fine lw : Nat) (lf : Nat → Nat) (ha1 : a < wm g) (ha2 : wK g a ≤ 2) (hb1 : b < wm g) (hb2 : wK g b ≤ 2) (hla : 1 ≤ lf a ∧ lf a ≤ 40) (hlb : 1 ≤ lf b ∧ lf b ≤ 40) (hfa : F (79 + a) 1 = nI (lf a)) (hfb : F (79 + b) 1 = nI (lf b)) (hn1 : 1 ≤ n) (hn8 : n ≤ 8) (hfine : fine ≤ 999) (hlw : lw ≤ 2) : CW l y_TU_play b_TU_play 8 (Option.none) 3 0 0 D g F [.ref (wad g 23), .ref (wad g (79 + a)), .ref (wad g (79 + b)), .int (nI n), .int (nI fine), .int (nI lw)] (fun v g2 u => v = none ∧ g = g2 ∧ u 23 9 = nI (tT0 (wK g) lf lw fine a b n).1 ∧ u 23 10 = nI (tT0 (wK g) lf lw fine a b n).2.1 ∧ (∃ ck, ck ≤ n ∧ (∀ j, j < ck → (cwt (wK g) lf lw fine a b n) j ≠ 0) ∧ (ck < n → (cwt (wK g) lf lw fine a b n) ck = 0) ∧ u 23 8 = nI ck ∧ ∀ j, j < ck → u 43 j = nI ((cwt (wK g) lf lw fine a b n) j)) ∧ ∀ k z, (k < 23 ∨ 43 < k) → u k z = F k z) := by
  refine CW.start rfl (Nat.le_of_ble_eq_true rfl) ?_
  intro p e s m args below meth c A ls hc hr hlocks hw hl
  have hl : lv_has ls 8 [(0, .ref (wad g 23)), (1, .ref (wad g (79 + a))), (2, .ref (wad g (79 + b))), (3, .int (nI n)), (4, .int (nI fine)), (5, .int (nI lw))] := hl
  have hx := hc.1
  have hb := hc.2.1
  have htl := tT_le (K := wK g) (lf := lf) (lw := lw) (fine := fine) (a := a) (b := b) (n := n) hfine hla.2 hlb.2
  have hlw40 : ∀ t, lf (wh a b t) ≤ 40 := fun t => by rcases wh_or a b t with h9 | h9 <;> rw [h9]; exact hla.2; exact hlb.2
  refine lv_aload_n hx hb d_TU_play_0 rfl (lv_at hl 0 rfl) ?_
  refine lv_iload hx hb d_TU_play_1 (lv_at hl 4 rfl) ?_
  refine pf_TU_32 hc hw d_TU_play_3 (fun H locs hw => ?_)
  refine lv_aload_n hx hb d_TU_play_6 rfl (lv_at hl 0 rfl) ?_
  refine lv_iload hx hb d_TU_play_7 (lv_at hl 5 rfl) ?_
  refine pf_TU_36 hc hw d_TU_play_9 (fun H locs hw => ?_)
  refine lv_aload_n hx hb d_TU_play_12 rfl (lv_at hl 0 rfl) ?_
  refine lv_aload_n hx hb d_TU_play_13 rfl (lv_at hl 1 rfl) ?_
  refine lv_iconst (v := nI 0) hx hb d_TU_play_14 (by decide) ?_
  refine kWV hc hw lk_TU_39 (h := 23) (As := [.ref (wad g (79 + a)), .int (nI 0)]) (rest := []) (c_TU_weighAll l D g _ a 0 (lf a) ha1 ha2 hla.2 ((u2_h (by omega)).trans ((u2_h (by omega)).trans hfa)) (by decide)) (rc_TU hw) ⟨Nat.le_of_ble_eq_true rfl, Nat.le_of_ble_eq_true rfl⟩ ⟨Nat.le_refl _, Nat.le_refl _⟩ rfl hl rfl (Nat.le_of_ble_eq_true rfl) d_TU_play_15 (fun v_1 g_2 F_3 H locs zhp_4 hw => ?_)
  obtain ⟨rfl, rfl, ha4, ha5, ha3⟩ := zhp_4
  refine lv_aload_n hx hb d_TU_play_18 rfl (lv_at hl 0 rfl) ?_
  refine lv_aload_n hx hb d_TU_play_19 rfl (lv_at hl 2 rfl) ?_
  refine lv_iconst (v := nI 1) hx hb d_TU_play_20 (by decide) ?_
  refine kWV hc hw lk_TU_39 (h := 23) (As := [.ref (wad g (79 + b)), .int (nI 1)]) (rest := []) (c_TU_weighAll l D g _ b 1 (lf b) hb1 hb2 hlb.2 ((ha3 (79 + b) 1 (by omega) (by omega)).trans ((u2_h (by omega)).trans ((u2_h (by omega)).trans hfb))) (by decide)) (rc_TU hw) ⟨Nat.le_of_ble_eq_true rfl, Nat.le_of_ble_eq_true rfl⟩ ⟨Nat.le_refl _, Nat.le_refl _⟩ rfl hl rfl (Nat.le_of_ble_eq_true rfl) d_TU_play_21 (fun v_5 g_6 F_7 H locs zhp_8 hw => ?_)
  obtain ⟨rfl, rfl, hb4, hb5, hb3⟩ := zhp_8
  refine lv_iconst (v := nI 0) hx hb d_TU_play_24 (by decide) ?_
  refine lv_istore (lv' := [(6, .int (nI 0)), (0, .ref (wad g 23)), (1, .ref (wad g (79 + a))), (2, .ref (wad g (79 + b))), (3, .int (nI n)), (4, .int (nI fine)), (5, .int (nI lw))]) hx hb d_TU_play_25 hl (by decide) rfl (fun ls hl => ?_)
  have loop_27 : ∀ (n_27 : Nat) (i : Nat) (F9 : wF) (H : Heap) (locs : List Loc) (ls : Array Slot), (41 - i) < n_27 → (i ≤ 41) → (∀ w, w < i → F9 (34 + n % 2) w = nI 0 ∧ F9 (37 + n % 2) w = nI 0) → (∀ k z, k ≠ 34 + n % 2 → k ≠ 37 + n % 2 → F9 k z = F_7 k z) → Wd D g F9 A s.heap H locs s → lv_has ls 8 [(0, .ref (wad g 23)), (1, .ref (wad g (79 + a))), (2, .ref (wad g (79 + b))), (3, .int (nI n)), (4, .int (nI fine)), (5, .int (nI lw)), (6, .int (nI i))] → W p l e (rmc 3 0 0) s m args below meth c H locs 0 0 (MQ below (Qw (fun v g2 u => v = none ∧ g = g2 ∧ u 23 9 = nI (tT0 (wK g) lf lw fine a b n).1 ∧ u 23 10 = nI (tT0 (wK g) lf lw fine a b n).2.1 ∧ (∃ ck, ck ≤ n ∧ (∀ j, j < ck → (cwt (wK g) lf lw fine a b n) j ≠ 0) ∧ (ck < n → (cwt (wK g) lf lw fine a b n) ck = 0) ∧ u 23 8 = nI ck ∧ ∀ j, j < ck → u 43 j = nI ((cwt (wK g) lf lw fine a b n) j)) ∧ ∀ k z, (k < 23 ∨ 43 < k) → u k z = F k z) (Bw D A) A) args s 0 0 A) (F0 m 27 ls []) := by
    intro n_27
    induction n_27 with
    | zero => intro i F9 H locs ls hm; exact absurd hm (Nat.not_lt_zero _)
    | succ n_27 ih_27 =>
      intro i F9 H locs ls hm_27 hi hz hF0 hw hl
      refine lv_iload hx hb d_TU_play_27 (lv_at hl 6 rfl) ?_
      refine lv_bipush (v := nI 40) hx hb d_TU_play_29 (by decide) ?_
      refine q_icmp_gt (tgt := 64) hc (by omega) (by omega) d_TU_play_31 (by decide) (fun c_9 => ?_) (fun c_9 => ?_)
      · have h42 : ∀ x, F9 42 (x % 2) = nI (lf (wh a b x)) := fun x => by
          rw [hF0 42 _ (by omega) (by omega)]
          rcases (show x % 2 = 0 ∨ x % 2 = 1 by omega) with e9 | e9
          · rw [e9, wh_e e9]; exact (hb3 42 0 (by decide) (by decide)).trans ha4
          · rw [e9, wh_o (by omega)]; exact hb4
        have hsh : ∀ x w, 1 ≤ w → w ≤ lf (wh a b x) → F9 (40 + x % 2) w = nI (shw (wK g (wh a b x)) w) := fun x w h1 h2 => by
          rw [hF0 _ _ (by omega) (by omega)]
          rcases (show x % 2 = 0 ∨ x % 2 = 1 by omega) with e9 | e9
          · rw [e9]; rw [wh_e e9] at h2 ⊢; exact (hb3 40 w (by omega) (by omega)).trans (ha5 w h1 h2)
          · rw [e9]; rw [wh_o (by omega)] at h2 ⊢; exact hb5 w h1 h2
        have h236 : F9 23 6 = nI fine := (hF0 23 6 (by omega) (by omega)).trans ((hb3 23 6 (by decide) (by decide)).trans ((ha3 23 6 (by decide) (by decide)).trans ((u2_i (by decide)).trans (u2_same _ _ _ _))))
        have h237 : F9 23 7 = nI lw := (hF0 23 7 (by omega) (by omega)).trans ((hb3 23 7 (by decide) (by decide)).trans ((ha3 23 7 (by decide) (by decide)).trans (u2_same _ _ _ _)))
        refine lv_iload_n hx hb d_TU_play_64 rfl (lv_at hl 3 rfl) ?_
        refine lv_iconst (v := nI 1) hx hb d_TU_play_65 (by decide) ?_
        refine q_isub hc (by omega) d_TU_play_66 ?_
        refine lv_istore (lv' := [(6, .int (nI (n - 1))), (0, .ref (wad g 23)), (1, .ref (wad g (79 + a))), (2, .ref (wad g (79 + b))), (3, .int (nI n)), (4, .int (nI fine)), (5, .int (nI lw))]) hx hb d_TU_play_67 hl (by decide) rfl (fun ls hl => ?_)
        have loop_69 : ∀ (n_69 : Nat) (t : Nat) (F1 : wF) (H : Heap) (locs : List Loc) (ls : Array Slot), (t) < n_69 → (t + 1 ≤ n) → (∀ w, 1 ≤ w → w ≤ lf (wh a b (t)) → F1 (34 + (t + 1) % 2) w = nI (tT (wK g) lf lw fine a b n (n - (t + 1)) w).1 ∧ F1 (37 + (t + 1) % 2) w = nI (tT (wK g) lf lw fine a b n (n - (t + 1)) w).2.1) → (∀ k, t < k → k < n → ∀ w, 1 ≤ w → w ≤ lf (wh a b (k + 1)) → F1 (25 + k) w = nI (tT (wK g) lf lw fine a b n (n - k) w).2.2) → (∀ h z, ¬ (25 ≤ h ∧ h ≤ 32) → ¬ (34 ≤ h ∧ h ≤ 38) → F1 h z = F9 h z) → Wd D g F1 A s.heap H locs s → lv_has ls 8 [(0, .ref (wad g 23)), (1, .ref (wad g (79 + a))), (2, .ref (wad g (79 + b))), (3, .int (nI n)), (4, .int (nI fine)), (5, .int (nI lw)), (6, .int (nI t))] → W p l e (rmc 3 0 0) s m args below meth c H locs 0 0 (MQ below (Qw (fun v g2 u => v = none ∧ g = g2 ∧ u 23 9 = nI (tT0 (wK g) lf lw fine a b n).1 ∧ u 23 10 = nI (tT0 (wK g) lf lw fine a b n).2.1 ∧ (∃ ck, ck ≤ n ∧ (∀ j, j < ck → (cwt (wK g) lf lw fine a b n) j ≠ 0) ∧ (ck < n → (cwt (wK g) lf lw fine a b n) ck = 0) ∧ u 23 8 = nI ck ∧ ∀ j, j < ck → u 43 j = nI ((cwt (wK g) lf lw fine a b n) j)) ∧ ∀ k z, (k < 23 ∨ 43 < k) → u k z = F k z) (Bw D A) A) args s 0 0 A) (F0 m 69 ls []) := by
          intro n_69
          induction n_69 with
          | zero => intro t F1 H locs ls hm; exact absurd hm (Nat.not_lt_zero _)
          | succ n_69 ih_69 =>
            intro t F1 H locs ls hm_69 htn hrow hch zhF1 hw hl
            refine lv_iload hx hb d_TU_play_69 (lv_at hl 6 rfl) ?_
            refine lv_iconst (v := nI 1) hx hb d_TU_play_71 (by decide) ?_
            refine q_icmp_lt (tgt := 114) hc (by omega) (by omega) d_TU_play_72 (by decide) (fun c_10 => ?_) (fun c_10 => ?_)
            · refine lv_aload_n hx hb d_TU_play_114 rfl (lv_at hl 0 rfl) ?_
              refine lv_iload_n hx hb d_TU_play_115 rfl (lv_at hl 3 rfl) ?_
              have ht0 : t = 0 := by omega
              rw [ht0] at hrow hch
              refine kWV hc hw lk_TU_47 (h := 23) (As := [.int (nI n)]) (rest := []) (c_TU_write l D g _ n (lf a) (fun w => ((tT (wK g) lf lw fine a b n (n - 1) w).1, (tT (wK g) lf lw fine a b n (n - 1) w).2.1)) (cwt (wK g) lf lw fine a b n) hn1 hn8 hla.1 hla.2 ((zhF1 42 0 (by decide) (by decide)).trans (h42 0)) (fun w h1 h2 => by have hr := hrow w h1 h2; exact ⟨hr.1, hr.2, Nat.le_trans (htl _ w (by omega)).1 (by decide), Nat.le_trans (htl _ w (by omega)).2 (by decide)⟩) rfl (fun q hq hz9 => by have h8 := cwt_le (K := wK g) (lf := lf) (lw := lw) (fine := fine) (a := a) (b := b) (n := n) q; rw [hch (q + 1) (by omega) hq _ (by omega) (by rw [wh_2]; exact h8)]; show nI _ = nI (if _ then _ else _); rw [if_neg hz9]) (fun q => by have h8 := cwt_le (K := wK g) (lf := lf) (lw := lw) (fine := fine) (a := a) (b := b) (n := n) q; have := hlw40 q; omega)) (rc_TU hw) ⟨Nat.le_of_ble_eq_true rfl, Nat.le_of_ble_eq_true rfl⟩ ⟨by exact Nat.le_refl _, by exact Nat.le_refl _⟩ rfl hl rfl (Nat.le_of_ble_eq_true rfl) d_TU_play_116 (fun v_11 g_12 F_13 H locs zhp_14 hw => ?_)
              obtain ⟨rfl, rfl, hy1, hy2, hy3, hy4⟩ := zhp_14
              exact W_v hc hw hr hlocks (⟨rfl, rfl, hy1, hy2, hy3, fun k z hk => (hy4 k z (by omega) (by omega)).trans ((zhF1 k z (by omega) (by omega)).trans ((hF0 k z (by omega) (by omega)).trans ((hb3 k z (by omega) (by omega)).trans ((ha3 k z (by omega) (by omega)).trans ((u2_h (by omega)).trans (u2_h (by omega)))))))⟩) d_TU_play_119
            · refine lv_iconst (v := nI 1) hx hb d_TU_play_75 (by decide) ?_
              refine lv_istore (lv' := [(7, .int (nI 1)), (0, .ref (wad g 23)), (1, .ref (wad g (79 + a))), (2, .ref (wad g (79 + b))), (3, .int (nI n)), (4, .int (nI fine)), (5, .int (nI lw)), (6, .int (nI t))]) hx hb d_TU_play_76 hl (by decide) rfl (fun ls hl => ?_)
              have loop_78 : ∀ (n_78 : Nat) (i : Nat) (F2 : wF) (H : Heap) (locs : List Loc) (ls : Array Slot), (lf (wh a b (t + 1)) - i) < n_78 → (i ≤ lf (wh a b (t + 1))) → (∀ w, 1 ≤ w → w ≤ i → F2 (34 + t % 2) w = nI (tT (wK g) lf lw fine a b n (n - t) w).1 ∧ F2 (37 + t % 2) w = nI (tT (wK g) lf lw fine a b n (n - t) w).2.1 ∧ F2 (25 + t) w = nI (tT (wK g) lf lw fine a b n (n - t) w).2.2) → (∀ h z, ¬ (h = 25 + t ∨ h = 34 + t % 2 ∨ h = 37 + t % 2) → F2 h z = F1 h z) → Wd D g F2 A s.heap H locs s → lv_has ls 8 [(0, .ref (wad g 23)), (1, .ref (wad g (79 + a))), (2, .ref (wad g (79 + b))), (3, .int (nI n)), (4, .int (nI fine)), (5, .int (nI lw)), (6, .int (nI t)), (7, .int (nI (i + 1)))] → W p l e (rmc 3 0 0) s m args below meth c H locs 0 0 (MQ below (Qw (fun v g2 u => v = none ∧ g = g2 ∧ u 23 9 = nI (tT0 (wK g) lf lw fine a b n).1 ∧ u 23 10 = nI (tT0 (wK g) lf lw fine a b n).2.1 ∧ (∃ ck, ck ≤ n ∧ (∀ j, j < ck → (cwt (wK g) lf lw fine a b n) j ≠ 0) ∧ (ck < n → (cwt (wK g) lf lw fine a b n) ck = 0) ∧ u 23 8 = nI ck ∧ ∀ j, j < ck → u 43 j = nI ((cwt (wK g) lf lw fine a b n) j)) ∧ ∀ k z, (k < 23 ∨ 43 < k) → u k z = F k z) (Bw D A) A) args s 0 0 A) (F0 m 78 ls []) := by
                intro n_78
                induction n_78 with
                | zero => intro i F2 H locs ls hm; exact absurd hm (Nat.not_lt_zero _)
                | succ n_78 ih_78 =>
                  intro i F2 H locs ls hm_78 hi hin zhF2 hw hl
                  have hG2 : ∀ h z, ¬ (25 ≤ h ∧ h ≤ 32) → ¬ (34 ≤ h ∧ h ≤ 38) → F2 h z = F9 h z := fun k z h1 h2 => (zhF2 k z (by omega)).trans (zhF1 k z h1 h2)
                  have hl9 := hlw40 (t + 1)
                  refine lv_iload hx hb d_TU_play_78 (lv_at hl 7 rfl) ?_
                  refine lv_aload_n hx hb d_TU_play_80 rfl (lv_at hl 0 rfl) ?_
                  refine gf_TU_25 hc hw d_TU_play_81 ?_
                  refine lv_iload hx hb d_TU_play_84 (lv_at hl 6 rfl) ?_
                  refine lv_iconst (v := nI 1) hx hb d_TU_play_86 (by decide) ?_
                  refine q_iadd hc d_TU_play_87 ?_
                  refine lv_iconst (v := nI 1) hx hb d_TU_play_88 (by decide) ?_
                  refine lv_iand hx hb d_TU_play_89 ?_
                  rw [b_par (t + 1) (by omega)]
                  refine r_iald hc hw (h := 42) (n := 2) (i := (t + 1) % 2) (fun _ => rfl) (by omega) (by omega) (by decide) d_TU_play_90 (v := .int (nI (lf (wh a b (t + 1))))) (congrArg Value.int ((hG2 42 _ (by decide) (by decide)).trans (h42 (t + 1)))) ?_
                  refine q_icmp_gt (tgt := 108) hc (by omega) (by have := hlw40 (t + 1); omega) d_TU_play_91 (by decide) (fun c_15 => ?_) (fun c_15 => ?_)
                  · refine lv_iinc (v := nI (t - 1)) (lv' := [(6, .int (nI (t - 1))), (0, .ref (wad g 23)), (1, .ref (wad g (79 + a))), (2, .ref (wad g (79 + b))), (3, .int (nI n)), (4, .int (nI fine)), (5, .int (nI lw)), (7, .int (nI (i + 1)))]) hx hb d_TU_play_108 hl (k := 6) rfl (show nI t + Int32.ofInt (-1) = nI (t - 1) from nI_dec (by omega)) (by decide) rfl (fun ls hl => ?_)
                    refine lv_goto (tgt := 69) hx hb d_TU_play_111 (by decide) ?_
                    exact ih_69 (t - 1) _ _ _ _ (by omega) (by omega) (fun w h1 h2 => by rw [show t - 1 + 1 = t by omega]; rw [show lf (wh a b (t - 1)) = lf (wh a b (t + 1)) from by rw [← wh_2 a b (t - 1), show t - 1 + 1 + 1 = t + 1 by omega]] at h2; exact ⟨(hin w h1 (by omega)).1, (hin w h1 (by omega)).2.1⟩) (fun k h1 h2 w h3 h4 => by rcases (show k = t ∨ t < k by omega) with e9 | e9; (rw [e9]; rw [e9] at h4; exact (hin w h3 (by omega)).2.2); exact (zhF2 (25 + k) w (by omega)).trans (hch k e9 h2 w h3 h4)) (hG2) hw (lv_sub hl [1, 2, 3, 4, 5, 6, 0] rfl)
                  · refine lv_aload_n hx hb d_TU_play_94 rfl (lv_at hl 0 rfl) ?_
                    refine lv_iload hx hb d_TU_play_95 (lv_at hl 6 rfl) ?_
                    refine lv_iload hx hb d_TU_play_97 (lv_at hl 7 rfl) ?_
                    have hl1 := hlw40 t
                    have hl2 := hlw40 (t + 1)
                    refine kWV hc hw lk_TU_43 (h := 23) (As := [.int (nI t), .int (nI (i + 1))]) (rest := []) (c_TU_choose l D g _ t (i + 1) (t % 2) (wK g (wh a b t)) (wK g (wh a b (t + 1))) lw (lf (wh a b t)) fine (fun w => ((tT (wK g) lf lw fine a b n (n - (t + 1)) w).1, (tT (wK g) lf lw fine a b n (n - (t + 1)) w).2.1)) (by omega) (by omega) (by omega) (by omega) rfl hlw hl1 hfine ((hG2 23 6 (by decide) (by decide)).trans h236) ((hG2 23 7 (by decide) (by decide)).trans h237) ((hG2 42 _ (by decide) (by decide)).trans (h42 t)) (fun w h1 h2 => (hG2 _ _ (by omega) (by omega)).trans (hsh t w h1 h2)) ((hG2 _ _ (by omega) (by omega)).trans (by rw [show 1 - t % 2 = (t + 1) % 2 by omega]; exact hsh (t + 1) (i + 1) (by omega) (by omega))) (fun w h1 h2 => by have hr := hrow w h1 h2; rw [show 1 - t % 2 = (t + 1) % 2 by omega, zhF2 _ _ (by omega), zhF2 _ _ (by omega)]; exact ⟨hr.1, hr.2, Nat.le_trans (htl _ w (by omega)).1 (by decide), Nat.le_trans (htl _ w (by omega)).2 (by decide)⟩)) (rc_TU hw) ⟨Nat.le_of_ble_eq_true rfl, Nat.le_of_ble_eq_true rfl⟩ ⟨by exact Nat.le_refl _, by exact Nat.le_refl _⟩ rfl hl rfl (Nat.le_of_ble_eq_true rfl) d_TU_play_99 (fun v_16 g_17 F_18 H locs zhp_19 hw => ?_)
                    obtain ⟨rfl, rfl, zhq1, zhq2, zhq3, zhq4⟩ := zhp_19
                    rw [← tT_s (K := wK g) (lf := lf) (lw := lw) (fine := fine) (a := a) (b := b) (n := n) (t := t) (last := i + 1) (by omega)] at zhq1 zhq2 zhq3
                    refine lv_iinc (v := nI ((i + 1) + 1)) (lv' := [(7, .int (nI ((i + 1) + 1))), (0, .ref (wad g 23)), (1, .ref (wad g (79 + a))), (2, .ref (wad g (79 + b))), (3, .int (nI n)), (4, .int (nI fine)), (5, .int (nI lw)), (6, .int (nI t))]) hx hb d_TU_play_102 hl (k := 7) rfl (nI_inc1 _) (by decide) rfl (fun ls hl => ?_)
                    refine lv_goto (tgt := 78) hx hb d_TU_play_105 (by decide) ?_
                    exact ih_78 (i + 1) _ _ _ _ (by omega) (by omega) (fun w h1 h2 => by rcases (show w ≤ i ∨ w = i + 1 by omega) with e9 | e9; (rw [zhq4 _ w (by omega), zhq4 _ w (by omega), zhq4 _ w (by omega)]; exact hin w h1 e9); (rw [e9]; exact ⟨zhq2, zhq3, zhq1⟩)) (fun k z hh => (zhq4 k z (by omega)).trans (zhF2 k z hh)) hw (lv_sub hl [1, 2, 3, 4, 5, 6, 7, 0] rfl)
              have hl : lv_has ls 8 [(7, .int (nI (0 + 1))), (0, .ref (wad g 23)), (1, .ref (wad g (79 + a))), (2, .ref (wad g (79 + b))), (3, .int (nI n)), (4, .int (nI fine)), (5, .int (nI lw)), (6, .int (nI t))] := by rw [show 0 + 1 = 1 from by rfl]; exact hl
              exact loop_78 _ 0 _ _ _ _ (Nat.lt_succ_self _) (by omega) (fun w h1 h2 => absurd h1 (by omega)) (fun _ _ _ => rfl) hw (lv_sub hl [1, 2, 3, 4, 5, 6, 7, 0] rfl)
        exact loop_69 _ (n - 1) _ _ _ _ (Nat.lt_succ_self _) (by omega) (fun w h1 h2 => by have hw4 : w < 41 := (by have := hlw40 (n - 1); omega); rw [show n - 1 + 1 = n by omega, Nat.sub_self]; exact hz w (by omega)) (fun k h1 h2 => absurd h1 (by omega)) (fun _ _ _ _ => rfl) hw (lv_sub hl [1, 2, 3, 4, 5, 6, 0] rfl)
      · refine lv_aload_n hx hb d_TU_play_34 rfl (lv_at hl 0 rfl) ?_
        refine gf_TU_16 hc hw d_TU_play_35 ?_
        refine lv_iload_n hx hb d_TU_play_38 rfl (lv_at hl 3 rfl) ?_
        refine lv_iconst (v := nI 1) hx hb d_TU_play_39 (by decide) ?_
        refine lv_iand hx hb d_TU_play_40 ?_
        rw [b_par (n) (by omega)]
        refine r_aldA hc hw (h := 33) (n := 2) (i := n % 2) (t0 := 3) rfl (by omega) rfl (by omega) (by decide) d_TU_play_41 (v := .ref (wad g (34 + (n % 2)))) (show va_rf (wrow g 34 2 (n % 2)) = _ from by rw [wrow_at (by omega)]; rfl) ?_
        refine lv_iload hx hb d_TU_play_42 (lv_at hl 6 rfl) ?_
        refine lv_iconst (v := nI 0) hx hb d_TU_play_44 (by decide) ?_
        refine r_iast hc hw (h := 34 + (n % 2)) (n := 41) (i := i) (fun f => wt_tuI g (by omega) f) (by omega) (by omega) (by decide) d_TU_play_45 (fun H locs hw => ?_)
        refine lv_aload_n hx hb d_TU_play_46 rfl (lv_at hl 0 rfl) ?_
        refine gf_TU_19 hc hw d_TU_play_47 ?_
        refine lv_iload_n hx hb d_TU_play_50 rfl (lv_at hl 3 rfl) ?_
        refine lv_iconst (v := nI 1) hx hb d_TU_play_51 (by decide) ?_
        refine lv_iand hx hb d_TU_play_52 ?_
        rw [b_par (n) (by omega)]
        refine r_aldA hc hw (h := 36) (n := 2) (i := n % 2) (t0 := 3) rfl (by omega) rfl (by omega) (by decide) d_TU_play_53 (v := .ref (wad g (37 + (n % 2)))) (show va_rf (wrow g 37 2 (n % 2)) = _ from by rw [wrow_at (by omega)]; rfl) ?_
        refine lv_iload hx hb d_TU_play_54 (lv_at hl 6 rfl) ?_
        refine lv_iconst (v := nI 0) hx hb d_TU_play_56 (by decide) ?_
        refine r_iast hc hw (h := 37 + (n % 2)) (n := 41) (i := i) (fun f => wt_tuW g (by omega) f) (by omega) (by omega) (by decide) d_TU_play_57 (fun H locs hw => ?_)
        refine lv_iinc (v := nI (i + 1)) (lv' := [(6, .int (nI (i + 1))), (0, .ref (wad g 23)), (1, .ref (wad g (79 + a))), (2, .ref (wad g (79 + b))), (3, .int (nI n)), (4, .int (nI fine)), (5, .int (nI lw))]) hx hb d_TU_play_58 hl (k := 6) rfl (nI_inc1 _) (by decide) rfl (fun ls hl => ?_)
        refine lv_goto (tgt := 27) hx hb d_TU_play_61 (by decide) ?_
        exact ih_27 (i + 1) _ _ _ _ (by omega) (by omega) (fun w hw => by rcases (show w < i ∨ w = i by omega) with e9 | e9; (rw [u2_ij2 (by omega), u2_ij2 (by omega), u2_ij2 (by omega), u2_ij2 (by omega)]; exact hz w e9); (rw [e9]; exact ⟨(u2_h (by omega)).trans (u2_same _ _ _ _), u2_same _ _ _ _⟩)) (fun k z h1 h2 => by rw [u2_h h2, u2_h h1]; exact hF0 k z h1 h2) hw (lv_sub hl [1, 2, 3, 4, 5, 6, 0] rfl)
  exact loop_27 _ 0 _ _ _ _ (Nat.lt_succ_self _) (by omega) (fun w hw => absurd hw (Nat.not_lt_zero w)) (fun _ _ _ _ => rfl) hw (lv_sub hl [1, 2, 3, 4, 5, 6, 0] rfl)
set_option maxHeartbeats 4000000 in
theorem c_AP_cost (l : Launch) (D : va_G) (g : wG) (F : wF) (pc : Nat) (lf : Nat → Nat) (lw : Nat) (cn : Nat) (fr to hv dy : Nat → Nat) (an af : Nat → Option Nat) (ln : Nat → Option Nat) (sz : Nat → Nat) (ce : Nat → Nat → Int32) (tr ft : Int32) (hG : GI g (pc, lf) lw (cn, fr, to, hv, dy, an, af) (ln, sz, ce)) (hC : CI g F (pc, lf) lw (cn, fr, to, hv, dy, an, af) (ln, sz, ce) tr ft) (zp0 zp1 zp2 zp3 zp4 : Int32) : CW l y_AP_cost b_AP_cost 8 (Option.some Jvm.ClassFile.FieldType.int) 4 0 0 D g F [.ref (wad g 0), .int zp0, .int zp1, .int zp2, .int zp3, .int zp4] (fun v g2 u => v = some (.int (s_cost (wK g) (pc, lf) lw zp0 zp1 zp2 zp3 zp4)) ∧ g = g2 ∧ CI g u (pc, lf) lw (cn, fr, to, hv, dy, an, af) (ln, sz, ce) tr ft ∧ FrO 0 57 F u) := by
  refine CW.start rfl (Nat.le_of_ble_eq_true rfl) ?_
  intro p e s m args below meth c A ls hc hr hlocks hw hl
  have hl : lv_has ls 8 [(0, .ref (wad g 0)), (1, .int zp0), (2, .int zp1), (3, .int zp2), (4, .int zp3), (5, .int zp4)] := hl
  have hx := hc.1
  have hb := hc.2.1
  obtain ⟨hpc6, hpcm, hm6, hpc0, hper⟩ : PI g pc lf := hG.1
  have hlw : lw ≤ 2 := hG.2.1
  have hI : LI pc cn fr to hv dy an af := hG.2.2.1
  have hcn := hI.1
  have hSI : SI ln sz := hG.2.2.2
  have hPC : PC F pc lf := hC.1
  have hL : LC g F cn fr to hv dy an af := hC.2.2.1
  have hSC : SC F ln sz ce := hC.2.2.2.1
  refine lv_aload_n hx hb d_AP_cost_0 rfl (lv_at hl 0 rfl) ?_
  refine lv_iload_n hx hb d_AP_cost_1 rfl (lv_at hl 1 rfl) ?_
  by_cases zhq0 : inN zp0 pc
  · obtain ⟨zj0, rfl, zj0_1⟩ := inN_nat zhq0
    have zj0_e := nI_tI (j := zj0) (by omega)
    have zj0_t := tn_nI (j := zj0) (by omega)
    unfold inN at zhq0
    refine kRV hc hw lk_AP_96 (As := [.int (nI zj0)]) (rest := []) (c_AP_personAt_y l D g _ pc (hPC.1) hpcm hm6 (zj0) (zj0_1)) (rc_AP hw) ⟨Nat.le_of_ble_eq_true rfl, Nat.le_of_ble_eq_true rfl⟩ ⟨Nat.le_refl _, Nat.le_refl _⟩ rfl hl rfl (Nat.le_of_ble_eq_true rfl) d_AP_cost_2 ?_
    refine lv_astore (lv' := [(6, .ref (wad g (79 + zj0))), (0, .ref (wad g 0)), (1, .int (nI zj0)), (2, .int zp1), (3, .int zp2), (4, .int zp3), (5, .int zp4)]) hx hb d_AP_cost_5 hl (by decide) rfl (fun ls hl => ?_)
    refine lv_aload_n hx hb d_AP_cost_7 rfl (lv_at hl 1 rfl) ?_
    refine lv_iload_n hx hb d_AP_cost_8 rfl (lv_at hl 3 rfl) ?_
    by_cases zhq1 : inN zp1 pc
    · obtain ⟨zj1, rfl, zj1_1⟩ := inN_nat zhq1
      have zj1_e := nI_tI (j := zj1) (by omega)
      have zj1_t := tn_nI (j := zj1) (by omega)
      unfold inN at zhq1
      refine kRV hc hw lk_AP_96 (As := [.int (nI zj1)]) (rest := []) (c_AP_personAt_y l D g _ pc (hPC.1) hpcm hm6 (zj1) (zj1_1)) (rc_AP hw) ⟨Nat.le_of_ble_eq_true rfl, Nat.le_of_ble_eq_true rfl⟩ ⟨Nat.le_refl _, Nat.le_refl _⟩ rfl hl rfl (Nat.le_of_ble_eq_true rfl) d_AP_cost_9 ?_
      refine lv_astore (lv' := [(7, .ref (wad g (79 + zj1))), (6, .ref (wad g (79 + zj0))), (0, .ref (wad g 0)), (1, .int (nI zj0)), (2, .int (nI zj1)), (3, .int zp2), (4, .int zp3), (5, .int zp4)]) hx hb d_AP_cost_12 hl (by decide) rfl (fun ls hl => ?_)
      refine lv_aload hx hb d_AP_cost_14 (lv_at hl 1 rfl) ?_
      refine lv_ifnull hx hb d_AP_cost_16 ?_
      refine lv_aload hx hb d_AP_cost_19 (lv_at hl 0 rfl) ?_
      refine lv_ifnull hx hb d_AP_cost_21 ?_
      refine lv_iload_n hx hb d_AP_cost_24 rfl (lv_at hl 3 rfl) ?_
      refine lv_iload_n hx hb d_AP_cost_25 rfl (lv_at hl 4 rfl) ?_
      refine q_icmp_ne (tgt := 31) hc (by omega) (by omega) d_AP_cost_26 (by decide) (fun c_1 => ?_) (fun c_1 => ?_)
      · refine lv_iload_n hx hb d_AP_cost_31 rfl (lv_at hl 5 rfl) ?_
        refine lv_iconst (v := nI 1) hx hb d_AP_cost_32 (by decide) ?_
        refine lv_bipush (v := nI 8) hx hb d_AP_cost_33 (by decide) ?_
        refine kRS hc hw lk_AP_67 (As := [.int zp2, .int (nI 1), .int (nI 8)]) (rest := []) (c_AP_isWithin l D g _ (zp2) (nI 1) (nI 8) 1 8 (by decide) (by decide)) ⟨Nat.le_of_ble_eq_true rfl, Nat.le_of_ble_eq_true rfl⟩ ⟨Nat.le_refl _, Nat.le_refl _⟩ rfl hl rfl (Nat.le_of_ble_eq_true rfl) d_AP_cost_35 ?_
        refine b_if_eq (tgt := 63) hc d_AP_cost_38 (by decide) (fun c_2 => ?_) (fun c_2 => ?_)
        · try unfold rng at c_2
          refine lv_bipush (v := (-2)) hx hb d_AP_cost_63 (by decide) ?_
          exact W_i hc hw hr hlocks (by refine ⟨congrArg (fun z => some (Value.int z)) ?_, rfl, hC, (by repeat (first | exact FrO.rf _ _ _ | refine FrO.up ?_ (by omega) (by omega)))⟩; unfold s_cost; (try simp only [inN, rng, zj0_t, zj0_e, zj1_t, zj1_e]); (repeat' split) <;> first | (exfalso; omega) | contradiction | rfl) d_AP_cost_65
        · obtain ⟨zj2, rfl, zj2_1, zj2_2⟩ := rng_nat c_2 (by decide)
          have zj2_e := nI_tI (j := zj2) (by omega)
          have zj2_t := tn_nI (j := zj2) (by omega)
          try unfold rng at c_2
          refine lv_iload hx hb d_AP_cost_41 (lv_at hl 6 rfl) ?_
          refine lv_iconst (v := nI 0) hx hb d_AP_cost_43 (by decide) ?_
          refine lv_sipush (v := nI 999) hx hb d_AP_cost_44 (by decide) ?_
          refine kRS hc hw lk_AP_67 (As := [.int zp3, .int (nI 0), .int (nI 999)]) (rest := []) (c_AP_isWithin l D g _ (zp3) (nI 0) (nI 999) 0 999 (by decide) (by decide)) ⟨Nat.le_of_ble_eq_true rfl, Nat.le_of_ble_eq_true rfl⟩ ⟨Nat.le_refl _, Nat.le_refl _⟩ rfl hl rfl (Nat.le_of_ble_eq_true rfl) d_AP_cost_47 ?_
          refine b_if_eq (tgt := 63) hc d_AP_cost_50 (by decide) (fun c_3 => ?_) (fun c_3 => ?_)
          · try unfold rng at c_3
            refine lv_bipush (v := (-2)) hx hb d_AP_cost_63 (by decide) ?_
            exact W_i hc hw hr hlocks (by refine ⟨congrArg (fun z => some (Value.int z)) ?_, rfl, hC, (by repeat (first | exact FrO.rf _ _ _ | refine FrO.up ?_ (by omega) (by omega)))⟩; unfold s_cost; (try simp only [inN, rng, zj0_t, zj0_e, zj1_t, zj1_e, zj2_t, zj2_e]); (repeat' split) <;> first | (exfalso; omega) | contradiction | rfl) d_AP_cost_65
          · obtain ⟨zj3, rfl, zj3_1, zj3_2⟩ := rng_nat c_3 (by decide)
            have zj3_e := nI_tI (j := zj3) (by omega)
            have zj3_t := tn_nI (j := zj3) (by omega)
            try unfold rng at c_3
            refine lv_iload hx hb d_AP_cost_53 (lv_at hl 7 rfl) ?_
            refine lv_iconst (v := nI 0) hx hb d_AP_cost_55 (by decide) ?_
            refine lv_iconst (v := nI 1) hx hb d_AP_cost_56 (by decide) ?_
            refine kRS hc hw lk_AP_67 (As := [.int zp4, .int (nI 0), .int (nI 1)]) (rest := []) (c_AP_isWithin l D g _ (zp4) (nI 0) (nI 1) 0 1 (by decide) (by decide)) ⟨Nat.le_of_ble_eq_true rfl, Nat.le_of_ble_eq_true rfl⟩ ⟨Nat.le_refl _, Nat.le_refl _⟩ rfl hl rfl (Nat.le_of_ble_eq_true rfl) d_AP_cost_57 ?_
            refine b_if_ne (tgt := 66) hc d_AP_cost_60 (by decide) (fun c_4 => ?_) (fun c_4 => ?_)
            · obtain ⟨zj4, rfl, zj4_1, zj4_2⟩ := rng_nat c_4 (by decide)
              have zj4_e := nI_tI (j := zj4) (by omega)
              have zj4_t := tn_nI (j := zj4) (by omega)
              try unfold rng at c_4
              refine lv_aload_n hx hb d_AP_cost_66 rfl (lv_at hl 2 rfl) ?_
              refine gf_AP_41 hc hw d_AP_cost_67 ?_
              refine lv_aload hx hb d_AP_cost_70 (lv_at hl 1 rfl) ?_
              refine lv_aload hx hb d_AP_cost_72 (lv_at hl 0 rfl) ?_
              refine lv_iload_n hx hb d_AP_cost_74 rfl (lv_at hl 5 rfl) ?_
              refine lv_iload hx hb d_AP_cost_75 (lv_at hl 6 rfl) ?_
              refine lv_aload_n hx hb d_AP_cost_77 rfl (lv_at hl 2 rfl) ?_
              refine gf_AP_110 hc hw d_AP_cost_78 (v := .int (nI lw)) (congrArg Value.int (hC.2.1)) ?_
              refine kWV hc hw lk_AP_186 (h := 23) (As := [.ref (wad g (79 + zj0)), .ref (wad g (79 + zj1)), .int (nI zj2), .int (nI zj3), .int (nI lw)]) (rest := []) (c_TU_play l D g _ zj0 zj1 zj2 zj3 lw lf (by omega) (hper zj0 (by omega)).1 (by omega) (hper zj1 (by omega)).1 ⟨(hper zj0 (by omega)).2.1, (hper zj0 (by omega)).2.2⟩ ⟨(hper zj1 (by omega)).2.1, (hper zj1 (by omega)).2.2⟩ (hPC.2 zj0 (by omega)).2 (hPC.2 zj1 (by omega)).2 (by omega) (by omega) (by omega) hlw) (rc_TU hw) ⟨Nat.le_of_ble_eq_true rfl, Nat.le_of_ble_eq_true rfl⟩ ⟨Nat.le_refl _, Nat.le_refl _⟩ rfl hl rfl (Nat.le_of_ble_eq_true rfl) d_AP_cost_81 (fun v_5 g_6 F_7 H locs zhp_8 hw => ?_)
              obtain ⟨rfl, rfl, hy1, hy2, ⟨ck, hy3, hy4, hy5, hy6, hy7⟩, hy8⟩ := zhp_8
              refine lv_iload hx hb d_AP_cost_84 (lv_at hl 7 rfl) ?_
              refine q_if_ne (tgt := 99) hc (by omega) d_AP_cost_86 (by decide) (fun c_9 => ?_) (fun c_9 => ?_)
              · refine lv_aload_n hx hb d_AP_cost_99 rfl (lv_at hl 2 rfl) ?_
                refine gf_AP_41 hc hw d_AP_cost_100 ?_
                refine gf_AP_199 hc hw d_AP_cost_103 (v := .int (nI ((tT0 (wK g) lf lw zj3 zj0 zj1 zj2).2.1))) (congrArg Value.int (hy2)) ?_
                exact W_i hc hw hr hlocks (by refine ⟨congrArg (fun z => some (Value.int z)) ?_, rfl, CI_x hC (fun h hh => funext fun i => hy8 h i (by omega)) ((hy8 21 0 (by decide)).trans hC.2.2.2.2.2.2.1) ((hy8 22 0 (by decide)).trans hC.2.2.2.2.2.2.2), (fun h hh => funext fun i => hy8 h i (by omega))⟩; unfold s_cost; (try simp only [inN, rng, zj0_t, zj0_e, zj1_t, zj1_e, zj2_t, zj2_e, zj3_t, zj3_e, zj4_t, zj4_e]); (repeat' split) <;> first | (exfalso; omega) | contradiction | rfl) d_AP_cost_106
              · refine lv_aload_n hx hb d_AP_cost_89 rfl (lv_at hl 2 rfl) ?_
                refine gf_AP_41 hc hw d_AP_cost_90 ?_
                refine gf_AP_196 hc hw d_AP_cost_93 (v := .int (nI ((tT0 (wK g) lf lw zj3 zj0 zj1 zj2).1))) (congrArg Value.int (hy1)) ?_
                refine lv_goto (tgt := 106) hx hb d_AP_cost_96 (by decide) ?_
                exact W_i hc hw hr hlocks (by refine ⟨congrArg (fun z => some (Value.int z)) ?_, rfl, CI_x hC (fun h hh => funext fun i => hy8 h i (by omega)) ((hy8 21 0 (by decide)).trans hC.2.2.2.2.2.2.1) ((hy8 22 0 (by decide)).trans hC.2.2.2.2.2.2.2), (fun h hh => funext fun i => hy8 h i (by omega))⟩; unfold s_cost; (try simp only [inN, rng, zj0_t, zj0_e, zj1_t, zj1_e, zj2_t, zj2_e, zj3_t, zj3_e, zj4_t, zj4_e]); (repeat' split) <;> first | (exfalso; omega) | contradiction | rfl) d_AP_cost_106
            · try unfold rng at c_4
              refine lv_bipush (v := (-2)) hx hb d_AP_cost_63 (by decide) ?_
              exact W_i hc hw hr hlocks (by refine ⟨congrArg (fun z => some (Value.int z)) ?_, rfl, hC, (by repeat (first | exact FrO.rf _ _ _ | refine FrO.up ?_ (by omega) (by omega)))⟩; unfold s_cost; (try simp only [inN, rng, zj0_t, zj0_e, zj1_t, zj1_e, zj2_t, zj2_e, zj3_t, zj3_e]); (repeat' split) <;> first | (exfalso; omega) | contradiction | rfl) d_AP_cost_65
      · refine lv_iconst (v := (-1)) hx hb d_AP_cost_29 (by decide) ?_
        exact W_i hc hw hr hlocks (by refine ⟨congrArg (fun z => some (Value.int z)) ?_, rfl, hC, (by repeat (first | exact FrO.rf _ _ _ | refine FrO.up ?_ (by omega) (by omega)))⟩; unfold s_cost; (try simp only [inN, rng, zj0_t, zj0_e, zj1_t, zj1_e]); (repeat' split) <;> first | (exfalso; omega) | contradiction | rfl) d_AP_cost_30
    · refine kRV hc hw lk_AP_96 (As := [.int zp1]) (rest := []) (c_AP_personAt_n l D g _ pc (hPC.1) hpc6 zp1 zhq1) (rc_AP hw) ⟨Nat.le_of_ble_eq_true rfl, Nat.le_of_ble_eq_true rfl⟩ ⟨Nat.le_refl _, Nat.le_refl _⟩ rfl hl rfl (Nat.le_of_ble_eq_true rfl) d_AP_cost_9 ?_
      unfold inN at zhq1
      refine lv_astoreN (lv' := [(7, .null), (6, .ref (wad g (79 + zj0))), (0, .ref (wad g 0)), (1, .int (nI zj0)), (2, .int zp1), (3, .int zp2), (4, .int zp3), (5, .int zp4)]) hx hb d_AP_cost_12 hl (by decide) rfl (fun ls hl => ?_)
      refine lv_aload hx hb d_AP_cost_14 (lv_at hl 1 rfl) ?_
      refine lv_ifnull hx hb d_AP_cost_16 ?_
      refine lv_aloadN hx hb d_AP_cost_19 (lv_at hl 0 rfl) ?_
      refine lv_ifnullN (tgt := 29) hx hb d_AP_cost_21 (by decide) ?_
      refine lv_iconst (v := (-1)) hx hb d_AP_cost_29 (by decide) ?_
      exact W_i hc hw hr hlocks (by refine ⟨congrArg (fun z => some (Value.int z)) ?_, rfl, hC, (by repeat (first | exact FrO.rf _ _ _ | refine FrO.up ?_ (by omega) (by omega)))⟩; unfold s_cost; (try simp only [inN, rng, zj0_t, zj0_e]); (repeat' split) <;> first | (exfalso; omega) | contradiction | rfl) d_AP_cost_30
  · refine kRV hc hw lk_AP_96 (As := [.int zp0]) (rest := []) (c_AP_personAt_n l D g _ pc (hPC.1) hpc6 zp0 zhq0) (rc_AP hw) ⟨Nat.le_of_ble_eq_true rfl, Nat.le_of_ble_eq_true rfl⟩ ⟨Nat.le_refl _, Nat.le_refl _⟩ rfl hl rfl (Nat.le_of_ble_eq_true rfl) d_AP_cost_2 ?_
    unfold inN at zhq0
    refine lv_astoreN (lv' := [(6, .null), (0, .ref (wad g 0)), (1, .int zp0), (2, .int zp1), (3, .int zp2), (4, .int zp3), (5, .int zp4)]) hx hb d_AP_cost_5 hl (by decide) rfl (fun ls hl => ?_)
    refine lv_aload_n hx hb d_AP_cost_7 rfl (lv_at hl 1 rfl) ?_
    refine lv_iload_n hx hb d_AP_cost_8 rfl (lv_at hl 3 rfl) ?_
    by_cases zhq1 : inN zp1 pc
    · obtain ⟨zj1, rfl, zj1_1⟩ := inN_nat zhq1
      have zj1_e := nI_tI (j := zj1) (by omega)
      have zj1_t := tn_nI (j := zj1) (by omega)
      unfold inN at zhq1
      refine kRV hc hw lk_AP_96 (As := [.int (nI zj1)]) (rest := []) (c_AP_personAt_y l D g _ pc (hPC.1) hpcm hm6 (zj1) (zj1_1)) (rc_AP hw) ⟨Nat.le_of_ble_eq_true rfl, Nat.le_of_ble_eq_true rfl⟩ ⟨Nat.le_refl _, Nat.le_refl _⟩ rfl hl rfl (Nat.le_of_ble_eq_true rfl) d_AP_cost_9 ?_
      refine lv_astore (lv' := [(7, .ref (wad g (79 + zj1))), (6, .null), (0, .ref (wad g 0)), (1, .int zp0), (2, .int (nI zj1)), (3, .int zp2), (4, .int zp3), (5, .int zp4)]) hx hb d_AP_cost_12 hl (by decide) rfl (fun ls hl => ?_)
      refine lv_aloadN hx hb d_AP_cost_14 (lv_at hl 1 rfl) ?_
      refine lv_ifnullN (tgt := 29) hx hb d_AP_cost_16 (by decide) ?_
      refine lv_iconst (v := (-1)) hx hb d_AP_cost_29 (by decide) ?_
      exact W_i hc hw hr hlocks (by refine ⟨congrArg (fun z => some (Value.int z)) ?_, rfl, hC, (by repeat (first | exact FrO.rf _ _ _ | refine FrO.up ?_ (by omega) (by omega)))⟩; unfold s_cost; (try simp only [inN, rng, zj1_t, zj1_e]); (repeat' split) <;> first | (exfalso; omega) | contradiction | rfl) d_AP_cost_30
    · refine kRV hc hw lk_AP_96 (As := [.int zp1]) (rest := []) (c_AP_personAt_n l D g _ pc (hPC.1) hpc6 zp1 zhq1) (rc_AP hw) ⟨Nat.le_of_ble_eq_true rfl, Nat.le_of_ble_eq_true rfl⟩ ⟨Nat.le_refl _, Nat.le_refl _⟩ rfl hl rfl (Nat.le_of_ble_eq_true rfl) d_AP_cost_9 ?_
      unfold inN at zhq1
      refine lv_astoreN (lv' := [(7, .null), (6, .null), (0, .ref (wad g 0)), (1, .int zp0), (2, .int zp1), (3, .int zp2), (4, .int zp3), (5, .int zp4)]) hx hb d_AP_cost_12 hl (by decide) rfl (fun ls hl => ?_)
      refine lv_aloadN hx hb d_AP_cost_14 (lv_at hl 1 rfl) ?_
      refine lv_ifnullN (tgt := 29) hx hb d_AP_cost_16 (by decide) ?_
      refine lv_iconst (v := (-1)) hx hb d_AP_cost_29 (by decide) ?_
      exact W_i hc hw hr hlocks (by refine ⟨congrArg (fun z => some (Value.int z)) ?_, rfl, hC, (by repeat (first | exact FrO.rf _ _ _ | refine FrO.up ?_ (by omega) (by omega)))⟩; unfold s_cost; (try simp only [inN, rng]); (repeat' split) <;> first | (exfalso; omega) | contradiction | rfl) d_AP_cost_30
set_option maxHeartbeats 4000000 in
theorem c_AP_course (l : Launch) (D : va_G) (g : wG) (F : wF) (pc : Nat) (lf : Nat → Nat) (lw : Nat) (cn : Nat) (fr to hv dy : Nat → Nat) (an af : Nat → Option Nat) (ln : Nat → Option Nat) (sz : Nat → Nat) (ce : Nat → Nat → Int32) (tr ft : Int32) (hG : GI g (pc, lf) lw (cn, fr, to, hv, dy, an, af) (ln, sz, ce)) (hC : CI g F (pc, lf) lw (cn, fr, to, hv, dy, an, af) (ln, sz, ce) tr ft) (zp0 zp1 zp2 zp3 zp4 : Int32) : CW l y_AP_course b_AP_course 8 (Option.some Jvm.ClassFile.FieldType.int) 4 0 0 D g F [.ref (wad g 0), .int zp0, .int zp1, .int zp2, .int zp3, .int zp4] (fun v g2 u => v = some (.int (s_course (wK g) (pc, lf) lw zp0 zp1 zp2 zp3 zp4)) ∧ g = g2 ∧ CI g u (pc, lf) lw (cn, fr, to, hv, dy, an, af) (ln, sz, ce) tr ft ∧ FrO 0 57 F u) := by
  refine CW.start rfl (Nat.le_of_ble_eq_true rfl) ?_
  intro p e s m args below meth c A ls hc hr hlocks hw hl
  have hl : lv_has ls 8 [(0, .ref (wad g 0)), (1, .int zp0), (2, .int zp1), (3, .int zp2), (4, .int zp3), (5, .int zp4)] := hl
  have hx := hc.1
  have hb := hc.2.1
  obtain ⟨hpc6, hpcm, hm6, hpc0, hper⟩ : PI g pc lf := hG.1
  have hlw : lw ≤ 2 := hG.2.1
  have hI : LI pc cn fr to hv dy an af := hG.2.2.1
  have hcn := hI.1
  have hSI : SI ln sz := hG.2.2.2
  have hPC : PC F pc lf := hC.1
  have hL : LC g F cn fr to hv dy an af := hC.2.2.1
  have hSC : SC F ln sz ce := hC.2.2.2.1
  refine lv_aload_n hx hb d_AP_course_0 rfl (lv_at hl 0 rfl) ?_
  refine lv_iload_n hx hb d_AP_course_1 rfl (lv_at hl 1 rfl) ?_
  by_cases zhq0 : inN zp0 pc
  · obtain ⟨zj0, rfl, zj0_1⟩ := inN_nat zhq0
    have zj0_e := nI_tI (j := zj0) (by omega)
    have zj0_t := tn_nI (j := zj0) (by omega)
    unfold inN at zhq0
    refine kRV hc hw lk_AP_96 (As := [.int (nI zj0)]) (rest := []) (c_AP_personAt_y l D g _ pc (hPC.1) hpcm hm6 (zj0) (zj0_1)) (rc_AP hw) ⟨Nat.le_of_ble_eq_true rfl, Nat.le_of_ble_eq_true rfl⟩ ⟨Nat.le_refl _, Nat.le_refl _⟩ rfl hl rfl (Nat.le_of_ble_eq_true rfl) d_AP_course_2 ?_
    refine lv_astore (lv' := [(6, .ref (wad g (79 + zj0))), (0, .ref (wad g 0)), (1, .int (nI zj0)), (2, .int zp1), (3, .int zp2), (4, .int zp3), (5, .int zp4)]) hx hb d_AP_course_5 hl (by decide) rfl (fun ls hl => ?_)
    refine lv_aload_n hx hb d_AP_course_7 rfl (lv_at hl 1 rfl) ?_
    refine lv_iload_n hx hb d_AP_course_8 rfl (lv_at hl 3 rfl) ?_
    by_cases zhq1 : inN zp1 pc
    · obtain ⟨zj1, rfl, zj1_1⟩ := inN_nat zhq1
      have zj1_e := nI_tI (j := zj1) (by omega)
      have zj1_t := tn_nI (j := zj1) (by omega)
      unfold inN at zhq1
      refine kRV hc hw lk_AP_96 (As := [.int (nI zj1)]) (rest := []) (c_AP_personAt_y l D g _ pc (hPC.1) hpcm hm6 (zj1) (zj1_1)) (rc_AP hw) ⟨Nat.le_of_ble_eq_true rfl, Nat.le_of_ble_eq_true rfl⟩ ⟨Nat.le_refl _, Nat.le_refl _⟩ rfl hl rfl (Nat.le_of_ble_eq_true rfl) d_AP_course_9 ?_
      refine lv_astore (lv' := [(7, .ref (wad g (79 + zj1))), (6, .ref (wad g (79 + zj0))), (0, .ref (wad g 0)), (1, .int (nI zj0)), (2, .int (nI zj1)), (3, .int zp2), (4, .int zp3), (5, .int zp4)]) hx hb d_AP_course_12 hl (by decide) rfl (fun ls hl => ?_)
      refine lv_aload hx hb d_AP_course_14 (lv_at hl 1 rfl) ?_
      refine lv_ifnull hx hb d_AP_course_16 ?_
      refine lv_aload hx hb d_AP_course_19 (lv_at hl 0 rfl) ?_
      refine lv_ifnull hx hb d_AP_course_21 ?_
      refine lv_iload_n hx hb d_AP_course_24 rfl (lv_at hl 3 rfl) ?_
      refine lv_iload_n hx hb d_AP_course_25 rfl (lv_at hl 4 rfl) ?_
      refine q_icmp_eq (tgt := 35) hc (by omega) (by omega) d_AP_course_26 (by decide) (fun c_1 => ?_) (fun c_1 => ?_)
      · refine lv_iconst (v := (-1)) hx hb d_AP_course_35 (by decide) ?_
        exact W_i hc hw hr hlocks (by refine ⟨congrArg (fun z => some (Value.int z)) ?_, rfl, hC, (by repeat (first | exact FrO.rf _ _ _ | refine FrO.up ?_ (by omega) (by omega)))⟩; unfold s_course; (try simp only [inN, rng, zj0_t, zj0_e, zj1_t, zj1_e]); (repeat' split) <;> first | (exfalso; omega) | contradiction | rfl) d_AP_course_36
      · refine lv_iload hx hb d_AP_course_29 (lv_at hl 7 rfl) ?_
        refine lv_iconst (v := (-1)) hx hb d_AP_course_31 (by decide) ?_
        refine u_icmp_ge (tgt := 37) (X := (zp4).toInt) (Y := (-1)) hc (rfl) (by decide) d_AP_course_32 (by decide) (fun c_2 => ?_) (fun c_2 => ?_)
        · refine lv_iload_n hx hb d_AP_course_37 rfl (lv_at hl 5 rfl) ?_
          refine lv_iconst (v := nI 1) hx hb d_AP_course_38 (by decide) ?_
          refine lv_bipush (v := nI 8) hx hb d_AP_course_39 (by decide) ?_
          refine kRS hc hw lk_AP_67 (As := [.int zp2, .int (nI 1), .int (nI 8)]) (rest := []) (c_AP_isWithin l D g _ (zp2) (nI 1) (nI 8) 1 8 (by decide) (by decide)) ⟨Nat.le_of_ble_eq_true rfl, Nat.le_of_ble_eq_true rfl⟩ ⟨Nat.le_refl _, Nat.le_refl _⟩ rfl hl rfl (Nat.le_of_ble_eq_true rfl) d_AP_course_41 ?_
          refine b_if_eq (tgt := 59) hc d_AP_course_44 (by decide) (fun c_3 => ?_) (fun c_3 => ?_)
          · try unfold rng at c_3
            refine lv_bipush (v := (-2)) hx hb d_AP_course_59 (by decide) ?_
            exact W_i hc hw hr hlocks (by refine ⟨congrArg (fun z => some (Value.int z)) ?_, rfl, hC, (by repeat (first | exact FrO.rf _ _ _ | refine FrO.up ?_ (by omega) (by omega)))⟩; unfold s_course; (try simp only [inN, rng, zj0_t, zj0_e, zj1_t, zj1_e]); (repeat' split) <;> first | (exfalso; omega) | contradiction | rfl) d_AP_course_61
          · obtain ⟨zj2, rfl, zj2_1, zj2_2⟩ := rng_nat c_3 (by decide)
            have zj2_e := nI_tI (j := zj2) (by omega)
            have zj2_t := tn_nI (j := zj2) (by omega)
            try unfold rng at c_3
            refine lv_iload hx hb d_AP_course_47 (lv_at hl 6 rfl) ?_
            refine lv_iconst (v := nI 0) hx hb d_AP_course_49 (by decide) ?_
            refine lv_sipush (v := nI 999) hx hb d_AP_course_50 (by decide) ?_
            refine kRS hc hw lk_AP_67 (As := [.int zp3, .int (nI 0), .int (nI 999)]) (rest := []) (c_AP_isWithin l D g _ (zp3) (nI 0) (nI 999) 0 999 (by decide) (by decide)) ⟨Nat.le_of_ble_eq_true rfl, Nat.le_of_ble_eq_true rfl⟩ ⟨Nat.le_refl _, Nat.le_refl _⟩ rfl hl rfl (Nat.le_of_ble_eq_true rfl) d_AP_course_53 ?_
            refine b_if_ne (tgt := 62) hc d_AP_course_56 (by decide) (fun c_4 => ?_) (fun c_4 => ?_)
            · obtain ⟨zj3, rfl, zj3_1, zj3_2⟩ := rng_nat c_4 (by decide)
              have zj3_e := nI_tI (j := zj3) (by omega)
              have zj3_t := tn_nI (j := zj3) (by omega)
              try unfold rng at c_4
              refine lv_aload_n hx hb d_AP_course_62 rfl (lv_at hl 2 rfl) ?_
              refine gf_AP_41 hc hw d_AP_course_63 ?_
              refine lv_aload hx hb d_AP_course_66 (lv_at hl 1 rfl) ?_
              refine lv_aload hx hb d_AP_course_68 (lv_at hl 0 rfl) ?_
              refine lv_iload_n hx hb d_AP_course_70 rfl (lv_at hl 5 rfl) ?_
              refine lv_iload hx hb d_AP_course_71 (lv_at hl 6 rfl) ?_
              refine lv_aload_n hx hb d_AP_course_73 rfl (lv_at hl 2 rfl) ?_
              refine gf_AP_110 hc hw d_AP_course_74 (v := .int (nI lw)) (congrArg Value.int (hC.2.1)) ?_
              refine kWV hc hw lk_AP_186 (h := 23) (As := [.ref (wad g (79 + zj0)), .ref (wad g (79 + zj1)), .int (nI zj2), .int (nI zj3), .int (nI lw)]) (rest := []) (c_TU_play l D g _ zj0 zj1 zj2 zj3 lw lf (by omega) (hper zj0 (by omega)).1 (by omega) (hper zj1 (by omega)).1 ⟨(hper zj0 (by omega)).2.1, (hper zj0 (by omega)).2.2⟩ ⟨(hper zj1 (by omega)).2.1, (hper zj1 (by omega)).2.2⟩ (hPC.2 zj0 (by omega)).2 (hPC.2 zj1 (by omega)).2 (by omega) (by omega) (by omega) hlw) (rc_TU hw) ⟨Nat.le_of_ble_eq_true rfl, Nat.le_of_ble_eq_true rfl⟩ ⟨Nat.le_refl _, Nat.le_refl _⟩ rfl hl rfl (Nat.le_of_ble_eq_true rfl) d_AP_course_77 (fun v_5 g_6 F_7 H locs zhp_8 hw => ?_)
              obtain ⟨rfl, rfl, hy1, hy2, ⟨ck, hy3, hy4, hy5, hy6, hy7⟩, hy8⟩ := zhp_8
              refine lv_iload hx hb d_AP_course_80 (lv_at hl 7 rfl) ?_
              refine lv_iconst (v := (-1)) hx hb d_AP_course_82 (by decide) ?_
              refine u_icmp_ne (tgt := 94) (X := (zp4).toInt) (Y := (-1)) hc (rfl) (by decide) d_AP_course_83 (by decide) (fun c_9 => ?_) (fun c_9 => ?_)
              · refine lv_iload hx hb d_AP_course_94 (lv_at hl 7 rfl) ?_
                refine lv_aload_n hx hb d_AP_course_96 rfl (lv_at hl 2 rfl) ?_
                refine gf_AP_41 hc hw d_AP_course_97 ?_
                refine gf_AP_190 hc hw d_AP_course_100 (v := .int (nI ck)) (congrArg Value.int (hy6)) ?_
                refine u_icmp_ge (tgt := 119) (X := (zp4).toInt) (Y := ((ck : Nat) : Int)) hc (rfl) (nI_tI (by omega)) d_AP_course_103 (by decide) (fun c_10 => ?_) (fun c_10 => ?_)
                · refine lv_bipush (v := (-9)) hx hb d_AP_course_119 (by decide) ?_
                  exact W_i hc hw hr hlocks (by refine ⟨congrArg (fun z => some (Value.int z)) ?_, rfl, CI_x hC (fun h hh => funext fun i => hy8 h i (by omega)) ((hy8 21 0 (by decide)).trans hC.2.2.2.2.2.2.1) ((hy8 22 0 (by decide)).trans hC.2.2.2.2.2.2.2), (fun h hh => funext fun i => hy8 h i (by omega))⟩; unfold s_course; rw [if_pos (by simp only [inN]; omega), if_pos (by simp only [rng]; omega)]; simp only [zj0_t, zj1_t, zj2_t, zj3_t]; rw [if_neg (by omega), if_neg (fun h9 => h9.2 (cwt_z (hy5 (by omega)) (tn zp4) (by unfold tn; omega)))]) d_AP_course_121
                · obtain ⟨zj4, rfl, zj4_1, zj4_2⟩ := rng_nat (x := zp4) (a := 0) (b := ((ck : Int) - 1)) ⟨by omega, by omega⟩ (by decide)
                  have zj4_e := nI_tI (j := zj4) (by omega)
                  have zj4_t := tn_nI (j := zj4) (by omega)
                  refine lv_aload_n hx hb d_AP_course_106 rfl (lv_at hl 2 rfl) ?_
                  refine gf_AP_41 hc hw d_AP_course_107 ?_
                  refine gf_AP_193 hc hw d_AP_course_110 ?_
                  refine lv_iload hx hb d_AP_course_113 (lv_at hl 7 rfl) ?_
                  refine r_iald hc hw (h := 43) (n := 8) (i := zj4) (fun _ => rfl) (by omega) (by omega) (by decide) d_AP_course_115 (v := .int (nI ((cwt (wK g) lf lw zj3 zj0 zj1 zj2) zj4))) (congrArg Value.int (hy7 zj4 (by omega))) ?_
                  refine lv_goto (tgt := 121) hx hb d_AP_course_116 (by decide) ?_
                  exact W_i hc hw hr hlocks (by refine ⟨congrArg (fun z => some (Value.int z)) ?_, rfl, CI_x hC (fun h hh => funext fun i => hy8 h i (by omega)) ((hy8 21 0 (by decide)).trans hC.2.2.2.2.2.2.1) ((hy8 22 0 (by decide)).trans hC.2.2.2.2.2.2.2), (fun h hh => funext fun i => hy8 h i (by omega))⟩; unfold s_course; rw [if_pos (by simp only [inN]; omega), if_pos (by simp only [rng]; omega)]; simp only [zj0_t, zj1_t, zj2_t, zj3_t]; rw [if_neg (by omega), zj4_t, if_pos ⟨by omega, hy4 zj4 (by omega)⟩]) d_AP_course_121
              · refine lv_aload_n hx hb d_AP_course_86 rfl (lv_at hl 2 rfl) ?_
                refine gf_AP_41 hc hw d_AP_course_87 ?_
                refine gf_AP_190 hc hw d_AP_course_90 (v := .int (nI ck)) (congrArg Value.int (hy6)) ?_
                exact W_i hc hw hr hlocks (by refine ⟨congrArg (fun z => some (Value.int z)) ?_, rfl, CI_x hC (fun h hh => funext fun i => hy8 h i (by omega)) ((hy8 21 0 (by decide)).trans hC.2.2.2.2.2.2.1) ((hy8 22 0 (by decide)).trans hC.2.2.2.2.2.2.2), (fun h hh => funext fun i => hy8 h i (by omega))⟩; unfold s_course; rw [if_pos (by simp only [inN]; omega), if_pos (by simp only [rng]; omega)]; simp only [zj0_t, zj1_t, zj2_t, zj3_t]; rw [if_pos (by omega), cmn_at hy4 zj2 hy3 (fun j h1 h2 => cwt_z (hy5 (by omega)) j h1)]) d_AP_course_93
            · try unfold rng at c_4
              refine lv_bipush (v := (-2)) hx hb d_AP_course_59 (by decide) ?_
              exact W_i hc hw hr hlocks (by refine ⟨congrArg (fun z => some (Value.int z)) ?_, rfl, hC, (by repeat (first | exact FrO.rf _ _ _ | refine FrO.up ?_ (by omega) (by omega)))⟩; unfold s_course; (try simp only [inN, rng, zj0_t, zj0_e, zj1_t, zj1_e, zj2_t, zj2_e]); (repeat' split) <;> first | (exfalso; omega) | contradiction | rfl) d_AP_course_61
        · refine lv_iconst (v := (-1)) hx hb d_AP_course_35 (by decide) ?_
          exact W_i hc hw hr hlocks (by refine ⟨congrArg (fun z => some (Value.int z)) ?_, rfl, hC, (by repeat (first | exact FrO.rf _ _ _ | refine FrO.up ?_ (by omega) (by omega)))⟩; unfold s_course; (try simp only [inN, rng, zj0_t, zj0_e, zj1_t, zj1_e]); (repeat' split) <;> first | (exfalso; omega) | contradiction | rfl) d_AP_course_36
    · refine kRV hc hw lk_AP_96 (As := [.int zp1]) (rest := []) (c_AP_personAt_n l D g _ pc (hPC.1) hpc6 zp1 zhq1) (rc_AP hw) ⟨Nat.le_of_ble_eq_true rfl, Nat.le_of_ble_eq_true rfl⟩ ⟨Nat.le_refl _, Nat.le_refl _⟩ rfl hl rfl (Nat.le_of_ble_eq_true rfl) d_AP_course_9 ?_
      unfold inN at zhq1
      refine lv_astoreN (lv' := [(7, .null), (6, .ref (wad g (79 + zj0))), (0, .ref (wad g 0)), (1, .int (nI zj0)), (2, .int zp1), (3, .int zp2), (4, .int zp3), (5, .int zp4)]) hx hb d_AP_course_12 hl (by decide) rfl (fun ls hl => ?_)
      refine lv_aload hx hb d_AP_course_14 (lv_at hl 1 rfl) ?_
      refine lv_ifnull hx hb d_AP_course_16 ?_
      refine lv_aloadN hx hb d_AP_course_19 (lv_at hl 0 rfl) ?_
      refine lv_ifnullN (tgt := 35) hx hb d_AP_course_21 (by decide) ?_
      refine lv_iconst (v := (-1)) hx hb d_AP_course_35 (by decide) ?_
      exact W_i hc hw hr hlocks (by refine ⟨congrArg (fun z => some (Value.int z)) ?_, rfl, hC, (by repeat (first | exact FrO.rf _ _ _ | refine FrO.up ?_ (by omega) (by omega)))⟩; unfold s_course; (try simp only [inN, rng, zj0_t, zj0_e]); (repeat' split) <;> first | (exfalso; omega) | contradiction | rfl) d_AP_course_36
  · refine kRV hc hw lk_AP_96 (As := [.int zp0]) (rest := []) (c_AP_personAt_n l D g _ pc (hPC.1) hpc6 zp0 zhq0) (rc_AP hw) ⟨Nat.le_of_ble_eq_true rfl, Nat.le_of_ble_eq_true rfl⟩ ⟨Nat.le_refl _, Nat.le_refl _⟩ rfl hl rfl (Nat.le_of_ble_eq_true rfl) d_AP_course_2 ?_
    unfold inN at zhq0
    refine lv_astoreN (lv' := [(6, .null), (0, .ref (wad g 0)), (1, .int zp0), (2, .int zp1), (3, .int zp2), (4, .int zp3), (5, .int zp4)]) hx hb d_AP_course_5 hl (by decide) rfl (fun ls hl => ?_)
    refine lv_aload_n hx hb d_AP_course_7 rfl (lv_at hl 1 rfl) ?_
    refine lv_iload_n hx hb d_AP_course_8 rfl (lv_at hl 3 rfl) ?_
    by_cases zhq1 : inN zp1 pc
    · obtain ⟨zj1, rfl, zj1_1⟩ := inN_nat zhq1
      have zj1_e := nI_tI (j := zj1) (by omega)
      have zj1_t := tn_nI (j := zj1) (by omega)
      unfold inN at zhq1
      refine kRV hc hw lk_AP_96 (As := [.int (nI zj1)]) (rest := []) (c_AP_personAt_y l D g _ pc (hPC.1) hpcm hm6 (zj1) (zj1_1)) (rc_AP hw) ⟨Nat.le_of_ble_eq_true rfl, Nat.le_of_ble_eq_true rfl⟩ ⟨Nat.le_refl _, Nat.le_refl _⟩ rfl hl rfl (Nat.le_of_ble_eq_true rfl) d_AP_course_9 ?_
      refine lv_astore (lv' := [(7, .ref (wad g (79 + zj1))), (6, .null), (0, .ref (wad g 0)), (1, .int zp0), (2, .int (nI zj1)), (3, .int zp2), (4, .int zp3), (5, .int zp4)]) hx hb d_AP_course_12 hl (by decide) rfl (fun ls hl => ?_)
      refine lv_aloadN hx hb d_AP_course_14 (lv_at hl 1 rfl) ?_
      refine lv_ifnullN (tgt := 35) hx hb d_AP_course_16 (by decide) ?_
      refine lv_iconst (v := (-1)) hx hb d_AP_course_35 (by decide) ?_
      exact W_i hc hw hr hlocks (by refine ⟨congrArg (fun z => some (Value.int z)) ?_, rfl, hC, (by repeat (first | exact FrO.rf _ _ _ | refine FrO.up ?_ (by omega) (by omega)))⟩; unfold s_course; (try simp only [inN, rng, zj1_t, zj1_e]); (repeat' split) <;> first | (exfalso; omega) | contradiction | rfl) d_AP_course_36
    · refine kRV hc hw lk_AP_96 (As := [.int zp1]) (rest := []) (c_AP_personAt_n l D g _ pc (hPC.1) hpc6 zp1 zhq1) (rc_AP hw) ⟨Nat.le_of_ble_eq_true rfl, Nat.le_of_ble_eq_true rfl⟩ ⟨Nat.le_refl _, Nat.le_refl _⟩ rfl hl rfl (Nat.le_of_ble_eq_true rfl) d_AP_course_9 ?_
      unfold inN at zhq1
      refine lv_astoreN (lv' := [(7, .null), (6, .null), (0, .ref (wad g 0)), (1, .int zp0), (2, .int zp1), (3, .int zp2), (4, .int zp3), (5, .int zp4)]) hx hb d_AP_course_12 hl (by decide) rfl (fun ls hl => ?_)
      refine lv_aloadN hx hb d_AP_course_14 (lv_at hl 1 rfl) ?_
      refine lv_ifnullN (tgt := 35) hx hb d_AP_course_16 (by decide) ?_
      refine lv_iconst (v := (-1)) hx hb d_AP_course_35 (by decide) ?_
      exact W_i hc hw hr hlocks (by refine ⟨congrArg (fun z => some (Value.int z)) ?_, rfl, hC, (by repeat (first | exact FrO.rf _ _ _ | refine FrO.up ?_ (by omega) (by omega)))⟩; unfold s_course; (try simp only [inN, rng]); (repeat' split) <;> first | (exfalso; omega) | contradiction | rfl) d_AP_course_36
