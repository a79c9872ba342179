/-! printed by wip/gen/meths14.py: the model, cost -/
def s_cost (K : Nat → Nat) (P : PSt) (lw : Nat) (x y n f w : Int32) : Int32 := if inN x P.1 ∧ inN y P.1 ∧ ¬ x.toInt = y.toInt then (if rng n 1 8 ∧ rng f 0 999 ∧ rng w 0 1 then (if w.toInt = 0 then nI (tT0 K P.2 lw (tn f) (tn x) (tn y) (tn n)).1 else nI (tT0 K P.2 lw (tn f) (tn x) (tn y) (tn n)).2.1) else -2) else -1
set_option maxHeartbeats 4000000 in
theorem c_MO_areTwo (l : Launch) (D : va_G) (g : wG) (F : wF) (pc : Nat) (h5 : F 58 5 = nI pc) (hpc6 : pc ≤ 6) (zp0 zp1 : Int32) : CR l y_MO_areTwo b_MO_areTwo 3 (Option.some Jvm.ClassFile.FieldType.boolean) 1 D g F [.ref (wad g 58), .int zp0, .int zp1] (.int (bI (inN zp0 pc ∧ inN zp1 pc ∧ ¬ zp0.toInt = zp1.toInt))) := by
  refine CR.start rfl (Nat.le_of_ble_eq_true rfl) ?_
  intro p e s m args below meth c A ls hc hr hlocks hw hl
  have hl : lv_has ls 3 [(0, .ref (wad g 58)), (1, .int zp0), (2, .int zp1)] := hl
  have hx := hc.1
  have hb := hc.2.1
  refine lv_aload_n hx hb d_MO_areTwo_0 rfl (lv_at hl 0 rfl) ?_
  refine lv_iload_n hx hb d_MO_areTwo_1 rfl (lv_at hl 1 rfl) ?_
  refine kRV hc hw lk_MO_116 (As := [.int zp0]) (rest := []) (c_MO_isPerson l D g _ pc (h5) hpc6 (zp0)) (rc_MO hw) ⟨Nat.le_of_ble_eq_true rfl, Nat.le_of_ble_eq_true rfl⟩ ⟨Nat.le_refl _, Nat.le_refl _⟩ rfl hl rfl (Nat.le_of_ble_eq_true rfl) d_MO_areTwo_2 ?_
  refine b_if_eq (tgt := 25) hc d_MO_areTwo_5 (by decide) (fun c_1 => ?_) (fun c_1 => ?_)
  · try unfold inN at c_1
    refine lv_iconst (v := nI 0) hx hb d_MO_areTwo_25 (by decide) ?_
    exact R_z hc hr hlocks (by rw [bI_f (by simp only [inN]; omega)]; rfl) rfl d_MO_areTwo_26
  · obtain ⟨zj0, rfl, zj0_1⟩ := inN_nat c_1
    have zj0_e := nI_tI (j := zj0) (by omega)
    have zj0_t := tn_nI (j := zj0) (by omega)
    try unfold inN at c_1
    refine lv_aload_n hx hb d_MO_areTwo_8 rfl (lv_at hl 0 rfl) ?_
    refine lv_iload_n hx hb d_MO_areTwo_9 rfl (lv_at hl 2 rfl) ?_
    refine kRV hc hw lk_MO_116 (As := [.int zp1]) (rest := []) (c_MO_isPerson l D g _ pc (h5) hpc6 (zp1)) (rc_MO hw) ⟨Nat.le_of_ble_eq_true rfl, Nat.le_of_ble_eq_true rfl⟩ ⟨Nat.le_refl _, Nat.le_refl _⟩ rfl hl rfl (Nat.le_of_ble_eq_true rfl) d_MO_areTwo_10 ?_
    refine b_if_eq (tgt := 25) hc d_MO_areTwo_13 (by decide) (fun c_2 => ?_) (fun c_2 => ?_)
    · try unfold inN at c_2
      refine lv_iconst (v := nI 0) hx hb d_MO_areTwo_25 (by decide) ?_
      exact R_z hc hr hlocks (by rw [bI_f (by simp only [inN]; omega)]; rfl) rfl d_MO_areTwo_26
    · obtain ⟨zj1, rfl, zj1_1⟩ := inN_nat c_2
      have zj1_e := nI_tI (j := zj1) (by omega)
      have zj1_t := tn_nI (j := zj1) (by omega)
      try unfold inN at c_2
      refine lv_iload_n hx hb d_MO_areTwo_16 rfl (lv_at hl 1 rfl) ?_
      refine lv_iload_n hx hb d_MO_areTwo_17 rfl (lv_at hl 2 rfl) ?_
      refine q_icmp_eq (tgt := 25) hc (by omega) (by omega) d_MO_areTwo_18 (by decide) (fun c_3 => ?_) (fun c_3 => ?_)
      · refine lv_iconst (v := nI 0) hx hb d_MO_areTwo_25 (by decide) ?_
        exact R_z hc hr hlocks (by rw [bI_f (by simp only [inN]; omega)]; rfl) rfl d_MO_areTwo_26
      · refine lv_iconst (v := nI 1) hx hb d_MO_areTwo_21 (by decide) ?_
        refine lv_goto (tgt := 26) hx hb d_MO_areTwo_22 (by decide) ?_
        exact R_z hc hr hlocks (by rw [bI_t (by simp only [inN]; omega)]; rfl) rfl d_MO_areTwo_26
set_option maxHeartbeats 4000000 in
theorem c_MO_cost (l : Launch) (D : va_G) (g : wG) (F : wF) (pc : Nat) (lf : Nat → Nat) (lw : Nat) (cn : Nat) (fr to hv dy : Nat → Nat) (an af : Nat → Option Nat) (ln : Nat → Option Nat) (sz : Nat → Nat) (ce : Nat → Nat → Int32) (tr ft : Int32) (hG : GI g (pc, lf) lw (cn, fr, to, hv, dy, an, af) (ln, sz, ce)) (hMI : MI g F (pc, lf) lw (cn, fr, to, hv, dy, an, af) (ln, sz, ce) tr ft) (zp0 zp1 zp2 zp3 zp4 : Int32) : CW l y_MO_cost b_MO_cost 6 (Option.some Jvm.ClassFile.FieldType.int) 5 0 0 D g F [.ref (wad g 58), .int zp0, .int zp1, .int zp2, .int zp3, .int zp4] (fun v g2 u => v = some (.int (s_cost (wK g) (pc, lf) lw zp0 zp1 zp2 zp3 zp4)) ∧ g = g2 ∧ MI g u (pc, lf) lw (cn, fr, to, hv, dy, an, af) (ln, sz, ce) tr ft ∧ FrO 58 78 F u) := by
  refine CW.start rfl (Nat.le_of_ble_eq_true rfl) ?_
  intro p e s m args below meth c A ls hc hr hlocks hw hl
  have hl : lv_has ls 6 [(0, .ref (wad g 58)), (1, .int zp0), (2, .int zp1), (3, .int zp2), (4, .int zp3), (5, .int zp4)] := hl
  have hx := hc.1
  have hb := hc.2.1
  obtain ⟨hpc6, hpcm, hm6, hpc0, hper⟩ : PI g pc lf := hG.1
  have hlw : lw ≤ 2 := hG.2.1
  have hI : LI pc cn fr to hv dy an af := hG.2.2.1
  have hcn := hI.1
  have hSI : SI ln sz := hG.2.2.2
  have hPM : PM g F pc lf := hMI.1
  have hM : LM F cn fr to hv dy an af := hMI.2.2.1
  have hSM : SM F ln sz ce := hMI.2.2.2.1
  have hK : ∀ q, q < pc → F 62 q = nI (wK g q) ∧ wK g q ≤ 2 := fun q hq => ⟨(hPM.2 q hq).1, (hper q hq).1⟩
  refine lv_aload_n hx hb d_MO_cost_0 rfl (lv_at hl 0 rfl) ?_
  refine lv_iload_n hx hb d_MO_cost_1 rfl (lv_at hl 1 rfl) ?_
  refine lv_iload_n hx hb d_MO_cost_2 rfl (lv_at hl 2 rfl) ?_
  refine kRV hc hw lk_MO_168 (As := [.int zp0, .int zp1]) (rest := []) (c_MO_areTwo l D g _ pc (hPM.1) hpc6 (zp0) (zp1)) (rc_MO hw) ⟨Nat.le_of_ble_eq_true rfl, Nat.le_of_ble_eq_true rfl⟩ ⟨Nat.le_refl _, Nat.le_refl _⟩ rfl hl rfl (Nat.le_of_ble_eq_true rfl) d_MO_cost_3 ?_
  refine b_if_ne (tgt := 11) hc d_MO_cost_6 (by decide) (fun c_1 => ?_) (fun c_1 => ?_)
  · obtain ⟨hA1, hA2, hA3⟩ := c_1
    obtain ⟨zj0, rfl, zj0_1⟩ := inN_nat hA1
    have zj0_e := nI_tI (j := zj0) (by omega)
    have zj0_t := tn_nI (j := zj0) (by omega)
    obtain ⟨zj1, rfl, zj1_1⟩ := inN_nat hA2
    have zj1_e := nI_tI (j := zj1) (by omega)
    have zj1_t := tn_nI (j := zj1) (by omega)
    refine lv_iload_n hx hb d_MO_cost_11 rfl (lv_at hl 3 rfl) ?_
    refine lv_iconst (v := nI 1) hx hb d_MO_cost_12 (by decide) ?_
    refine lv_bipush (v := nI 8) hx hb d_MO_cost_13 (by decide) ?_
    refine kRS hc hw lk_MO_76 (As := [.int zp2, .int (nI 1), .int (nI 8)]) (rest := []) (c_MO_within l D g _ (zp2) (nI 1) (nI 8) 1 8 (by decide) (by decide)) ⟨Nat.le_of_ble_eq_true rfl, Nat.le_of_ble_eq_true rfl⟩ ⟨Nat.le_refl _, Nat.le_refl _⟩ rfl hl rfl (Nat.le_of_ble_eq_true rfl) d_MO_cost_15 ?_
    refine b_if_eq (tgt := 43) hc d_MO_cost_18 (by decide) (fun c_2 => ?_) (fun c_2 => ?_)
    · try unfold rng at c_2
      refine lv_bipush (v := (-2)) hx hb d_MO_cost_43 (by decide) ?_
      exact W_i hc hw hr hlocks (by refine ⟨congrArg (fun z => some (Value.int z)) ?_, rfl, hMI, (by repeat (first | exact FrO.rf _ _ _ | refine FrO.up ?_ (by omega) (by omega)))⟩; unfold s_cost; (try simp only [inN, rng, zj0_t, zj0_e, zj1_t, zj1_e]); (repeat' split) <;> first | (exfalso; omega) | contradiction | rfl) d_MO_cost_45
    · obtain ⟨zj2, rfl, zj2_1, zj2_2⟩ := rng_nat c_2 (by decide)
      have zj2_e := nI_tI (j := zj2) (by omega)
      have zj2_t := tn_nI (j := zj2) (by omega)
      try unfold rng at c_2
      refine lv_iload hx hb d_MO_cost_21 (lv_at hl 4 rfl) ?_
      refine lv_iconst (v := nI 0) hx hb d_MO_cost_23 (by decide) ?_
      refine lv_sipush (v := nI 999) hx hb d_MO_cost_24 (by decide) ?_
      refine kRS hc hw lk_MO_76 (As := [.int zp3, .int (nI 0), .int (nI 999)]) (rest := []) (c_MO_within l D g _ (zp3) (nI 0) (nI 999) 0 999 (by decide) (by decide)) ⟨Nat.le_of_ble_eq_true rfl, Nat.le_of_ble_eq_true rfl⟩ ⟨Nat.le_refl _, Nat.le_refl _⟩ rfl hl rfl (Nat.le_of_ble_eq_true rfl) d_MO_cost_27 ?_
      refine b_if_eq (tgt := 43) hc d_MO_cost_30 (by decide) (fun c_3 => ?_) (fun c_3 => ?_)
      · try unfold rng at c_3
        refine lv_bipush (v := (-2)) hx hb d_MO_cost_43 (by decide) ?_
        exact W_i hc hw hr hlocks (by refine ⟨congrArg (fun z => some (Value.int z)) ?_, rfl, hMI, (by repeat (first | exact FrO.rf _ _ _ | refine FrO.up ?_ (by omega) (by omega)))⟩; unfold s_cost; (try simp only [inN, rng, zj0_t, zj0_e, zj1_t, zj1_e, zj2_t, zj2_e]); (repeat' split) <;> first | (exfalso; omega) | contradiction | rfl) d_MO_cost_45
      · obtain ⟨zj3, rfl, zj3_1, zj3_2⟩ := rng_nat c_3 (by decide)
        have zj3_e := nI_tI (j := zj3) (by omega)
        have zj3_t := tn_nI (j := zj3) (by omega)
        try unfold rng at c_3
        refine lv_iload hx hb d_MO_cost_33 (lv_at hl 5 rfl) ?_
        refine lv_iconst (v := nI 0) hx hb d_MO_cost_35 (by decide) ?_
        refine lv_iconst (v := nI 1) hx hb d_MO_cost_36 (by decide) ?_
        refine kRS hc hw lk_MO_76 (As := [.int zp4, .int (nI 0), .int (nI 1)]) (rest := []) (c_MO_within l D g _ (zp4) (nI 0) (nI 1) 0 1 (by decide) (by decide)) ⟨Nat.le_of_ble_eq_true rfl, Nat.le_of_ble_eq_true rfl⟩ ⟨Nat.le_refl _, Nat.le_refl _⟩ rfl hl rfl (Nat.le_of_ble_eq_true rfl) d_MO_cost_37 ?_
        refine b_if_ne (tgt := 46) hc d_MO_cost_40 (by decide) (fun c_4 => ?_) (fun c_4 => ?_)
        · obtain ⟨zj4, rfl, zj4_1, zj4_2⟩ := rng_nat c_4 (by decide)
          have zj4_e := nI_tI (j := zj4) (by omega)
          have zj4_t := tn_nI (j := zj4) (by omega)
          try unfold rng at c_4
          refine lv_aload_n hx hb d_MO_cost_46 rfl (lv_at hl 0 rfl) ?_
          refine lv_iload_n hx hb d_MO_cost_47 rfl (lv_at hl 1 rfl) ?_
          refine lv_iload_n hx hb d_MO_cost_48 rfl (lv_at hl 2 rfl) ?_
          refine lv_iload_n hx hb d_MO_cost_49 rfl (lv_at hl 3 rfl) ?_
          refine lv_iload hx hb d_MO_cost_50 (lv_at hl 4 rfl) ?_
          refine kWV hc hw lk_MO_172 (h := 58) (As := [.int (nI zj0), .int (nI zj1), .int (nI zj2), .int (nI zj3)]) (rest := []) (c_MO_layCourse l D g _ pc lf lw hG.1 hPM hlw hMI.2.1 zj0 zj1 zj2 zj3 (by omega) (by omega) (by omega) (by omega) (by omega)) (rc_MO hw) ⟨Nat.le_of_ble_eq_true rfl, Nat.le_of_ble_eq_true rfl⟩ ⟨Nat.le_refl _, Nat.le_refl _⟩ rfl hl rfl (Nat.le_of_ble_eq_true rfl) d_MO_cost_52 (fun v_5 g_6 F_7 H locs zhp_8 hw => ?_)
          obtain ⟨rfl, rfl, hlr, hl0, zhF1⟩ := zhp_8
          refine lv_iload hx hb d_MO_cost_55 (lv_at hl 5 rfl) ?_
          refine q_if_ne (tgt := 69) hc (by omega) d_MO_cost_57 (by decide) (fun c_9 => ?_) (fun c_9 => ?_)
          · refine lv_aload_n hx hb d_MO_cost_69 rfl (lv_at hl 0 rfl) ?_
            refine gf_MO_58 hc hw d_MO_cost_70 ?_
            refine lv_iconst (v := nI 0) hx hb d_MO_cost_73 (by decide) ?_
            refine r_iald hc hw (h := 75) (n := 369) (i := 0) (fun _ => rfl) (by omega) (by omega) (by decide) d_MO_cost_74 (v := .int (nI ((tT0 (wK g) lf lw zj3 zj0 zj1 zj2).2.1))) (congrArg Value.int (hl0.2.1)) ?_
            exact W_i hc hw hr hlocks (by refine ⟨congrArg (fun z => some (Value.int z)) ?_, rfl, MI_x hMI (fun k i h => zhF1 k i (by omega) (by omega) (by omega)), (fun h hh => funext fun i => zhF1 h i (by omega) (by omega) (by omega))⟩; unfold s_cost; (try simp only [inN, rng, zj0_t, zj0_e, zj1_t, zj1_e, zj2_t, zj2_e, zj3_t, zj3_e, zj4_t, zj4_e]); (repeat' split) <;> first | (exfalso; omega) | contradiction | rfl) d_MO_cost_75
          · refine lv_aload_n hx hb d_MO_cost_60 rfl (lv_at hl 0 rfl) ?_
            refine gf_MO_55 hc hw d_MO_cost_61 ?_
            refine lv_iconst (v := nI 0) hx hb d_MO_cost_64 (by decide) ?_
            refine r_iald hc hw (h := 74) (n := 369) (i := 0) (fun _ => rfl) (by omega) (by omega) (by decide) d_MO_cost_65 (v := .int (nI ((tT0 (wK g) lf lw zj3 zj0 zj1 zj2).1))) (congrArg Value.int (hl0.1)) ?_
            refine lv_goto (tgt := 75) hx hb d_MO_cost_66 (by decide) ?_
            exact W_i hc hw hr hlocks (by refine ⟨congrArg (fun z => some (Value.int z)) ?_, rfl, MI_x hMI (fun k i h => zhF1 k i (by omega) (by omega) (by omega)), (fun h hh => funext fun i => zhF1 h i (by omega) (by omega) (by omega))⟩; unfold s_cost; (try simp only [inN, rng, zj0_t, zj0_e, zj1_t, zj1_e, zj2_t, zj2_e, zj3_t, zj3_e, zj4_t, zj4_e]); (repeat' split) <;> first | (exfalso; omega) | contradiction | rfl) d_MO_cost_75
        · try unfold rng at c_4
          refine lv_bipush (v := (-2)) hx hb d_MO_cost_43 (by decide) ?_
          exact W_i hc hw hr hlocks (by refine ⟨congrArg (fun z => some (Value.int z)) ?_, rfl, hMI, (by repeat (first | exact FrO.rf _ _ _ | refine FrO.up ?_ (by omega) (by omega)))⟩; unfold s_cost; (try simp only [inN, rng, zj0_t, zj0_e, zj1_t, zj1_e, zj2_t, zj2_e, zj3_t, zj3_e]); (repeat' split) <;> first | (exfalso; omega) | contradiction | rfl) d_MO_cost_45
  · refine lv_iconst (v := (-1)) hx hb d_MO_cost_9 (by decide) ?_
    exact W_i hc hw hr hlocks (by refine ⟨congrArg (fun z => some (Value.int z)) ?_, rfl, hMI, (by repeat (first | exact FrO.rf _ _ _ | refine FrO.up ?_ (by omega) (by omega)))⟩; unfold s_cost; (try simp only [inN, rng]); (repeat' split) <;> first | (exfalso; omega) | contradiction | rfl) d_MO_cost_10
