/-! printed by wip/gen/meths5.py: the class, calls that change the state -/
set_option maxHeartbeats 4000000 in
theorem c_AP_law (l : Launch) (D : va_G) (g : wG) (F : wF) (pc : Nat) (lf : Nat → Nat) (lw : Nat) (cn : Nat) (fr to hv dy : Nat → Nat) (an af : Nat → Option Nat) (ln : Nat → Option Nat) (sz : Nat → Nat) (ce : Nat → Nat → Int32) (tr ft : Int32) (hG : GI g (pc, lf) lw (cn, fr, to, hv, dy, an, af) (ln, sz, ce)) (hC : CI g F (pc, lf) lw (cn, fr, to, hv, dy, an, af) (ln, sz, ce) tr ft) (zp0 : Int32) : CW l y_AP_law b_AP_law 3 (Option.some Jvm.ClassFile.FieldType.int) 3 0 0 D g F [.ref (wad g 0), .int zp0] (fun v g2 u => v = some (.int (s_law (pc, lf) lw zp0).1) ∧ g = g2 ∧ CI g u (pc, lf) (s_law (pc, lf) lw zp0).2 (cn, fr, to, hv, dy, an, af) (ln, sz, ce) tr ft ∧ FrO 0 57 F u) := by
  refine CW.start rfl (Nat.le_of_ble_eq_true rfl) ?_
  intro p e s m args below meth c A ls hc hr hlocks hw hl
  have hl : lv_has ls 3 [(0, .ref (wad g 0)), (1, .int zp0)] := hl
  have hx := hc.1
  have hb := hc.2.1
  obtain ⟨hpc6, hpcm, hm6, hpc0, hper⟩ : PI g pc lf := hG.1
  have hlw : lw ≤ 2 := hG.2.1
  have hI : LI pc cn fr to hv dy an af := hG.2.2.1
  have hcn := hI.1
  have hSI : SI ln sz := hG.2.2.2
  have hPC : PC F pc lf := hC.1
  have hL : LC g F cn fr to hv dy an af := hC.2.2.1
  have hSC : SC F ln sz ce := hC.2.2.2.1
  refine lv_iload_n hx hb d_AP_law_0 rfl (lv_at hl 1 rfl) ?_
  refine lv_iconst (v := nI 0) hx hb d_AP_law_1 (by decide) ?_
  refine lv_iconst (v := nI 2) hx hb d_AP_law_2 (by decide) ?_
  refine kRS hc hw lk_AP_67 (As := [.int zp0, .int (nI 0), .int (nI 2)]) (rest := []) (c_AP_isWithin l D g _ (zp0) (nI 0) (nI 2) 0 2 (by decide) (by decide)) ⟨Nat.le_of_ble_eq_true rfl, Nat.le_of_ble_eq_true rfl⟩ ⟨Nat.le_refl _, Nat.le_refl _⟩ rfl hl rfl (Nat.le_of_ble_eq_true rfl) d_AP_law_3 ?_
  refine b_if_ne (tgt := 12) hc d_AP_law_6 (by decide) (fun c_1 => ?_) (fun c_1 => ?_)
  · obtain ⟨zj0, rfl, zj0_1, zj0_2⟩ := rng_nat c_1 (by decide)
    have zj0_e := nI_tI (j := zj0) (by omega)
    have zj0_t := tn_nI (j := zj0) (by omega)
    try unfold rng at c_1
    refine lv_aload_n hx hb d_AP_law_12 rfl (lv_at hl 0 rfl) ?_
    refine gf_AP_93 hc hw d_AP_law_13 (v := .int (nI pc)) (congrArg Value.int (hPC.1)) ?_
    refine q_if_ne (tgt := 22) hc (by omega) d_AP_law_16 (by decide) (fun c_2 => ?_) (fun c_2 => ?_)
    · refine lv_aload_n hx hb d_AP_law_22 rfl (lv_at hl 0 rfl) ?_
      refine gf_AP_110 hc hw d_AP_law_23 (v := .int (nI lw)) (congrArg Value.int (hC.2.1)) ?_
      refine lv_istore_n (lv' := [(2, .int (nI lw)), (0, .ref (wad g 0)), (1, .int (nI zj0))]) hx hb d_AP_law_26 rfl hl (by decide) rfl (fun ls hl => ?_)
      refine lv_aload_n hx hb d_AP_law_27 rfl (lv_at hl 1 rfl) ?_
      refine lv_iload_n hx hb d_AP_law_28 rfl (lv_at hl 2 rfl) ?_
      refine pf_AP_110 hc hw d_AP_law_29 (fun H locs hw => ?_)
      refine lv_iload_n hx hb d_AP_law_32 rfl (lv_at hl 0 rfl) ?_
      exact W_i hc hw hr hlocks (by refine ⟨congrArg (fun z => some (Value.int z)) ?_, rfl, ?_, (by repeat (first | exact FrO.rf _ _ _ | assumption | refine FrO.up ?_ (by decide) (by decide)))⟩; (unfold s_law; (try simp only [inN, rng, zj0_t, zj0_e]); (repeat' split) <;> first | (exfalso; omega) | contradiction | rfl); (unfold s_law; (try simp only [inN, rng, zj0_t, zj0_e]); (repeat' split) <;> first | (exfalso; omega) | contradiction | exact CI_lw hC _)) d_AP_law_33
    · refine lv_bipush (v := (-3)) hx hb d_AP_law_19 (by decide) ?_
      exact W_i hc hw hr hlocks (by refine ⟨congrArg (fun z => some (Value.int z)) ?_, rfl, ?_, (by repeat (first | exact FrO.rf _ _ _ | assumption | refine FrO.up ?_ (by decide) (by decide)))⟩; (unfold s_law; (try simp only [inN, rng, zj0_t, zj0_e]); (repeat' split) <;> first | (exfalso; omega) | contradiction | rfl); (unfold s_law; (try simp only [inN, rng, zj0_t, zj0_e]); (repeat' split) <;> first | (exfalso; omega) | contradiction | exact hC)) d_AP_law_21
  · try unfold rng at c_1
    refine lv_bipush (v := (-2)) hx hb d_AP_law_9 (by decide) ?_
    exact W_i hc hw hr hlocks (by refine ⟨congrArg (fun z => some (Value.int z)) ?_, rfl, ?_, (by repeat (first | exact FrO.rf _ _ _ | assumption | refine FrO.up ?_ (by decide) (by decide)))⟩; (unfold s_law; (try simp only [inN, rng]); (repeat' split) <;> first | (exfalso; omega) | contradiction | rfl); (unfold s_law; (try simp only [inN, rng]); (repeat' split) <;> first | (exfalso; omega) | contradiction | exact hC)) d_AP_law_11
set_option maxHeartbeats 4000000 in
theorem c_AP_send (l : Launch) (D : va_G) (g : wG) (F : wF) (pc : Nat) (lf : Nat → Nat) (lw : Nat) (cn : Nat) (fr to hv dy : Nat → Nat) (an af : Nat → Option Nat) (ln : Nat → Option Nat) (sz : Nat → Nat) (ce : Nat → Nat → Int32) (tr ft : Int32) (hG : GI g (pc, lf) lw (cn, fr, to, hv, dy, an, af) (ln, sz, ce)) (hC : CI g F (pc, lf) lw (cn, fr, to, hv, dy, an, af) (ln, sz, ce) tr ft) (zp0 zp1 zp2 zp3 : Int32) : CW l y_AP_send b_AP_send 6 (Option.some Jvm.ClassFile.FieldType.int) 3 0 0 D g F [.ref (wad g 0), .int zp0, .int zp1, .int zp2, .int zp3] (fun v g2 u => v = some (.int (s_send (pc, lf) (cn, fr, to, hv, dy, an, af) zp0 zp1 zp2 zp3).1) ∧ g = g2 ∧ CI g u (pc, lf) lw (s_send (pc, lf) (cn, fr, to, hv, dy, an, af) zp0 zp1 zp2 zp3).2 (ln, sz, ce) tr ft ∧ FrO 0 57 F u) := by
  refine CW.start rfl (Nat.le_of_ble_eq_true rfl) ?_
  intro p e s m args below meth c A ls hc hr hlocks hw hl
  have hl : lv_has ls 6 [(0, .ref (wad g 0)), (1, .int zp0), (2, .int zp1), (3, .int zp2), (4, .int zp3)] := hl
  have hx := hc.1
  have hb := hc.2.1
  obtain ⟨hpc6, hpcm, hm6, hpc0, hper⟩ : PI g pc lf := hG.1
  have hlw : lw ≤ 2 := hG.2.1
  have hI : LI pc cn fr to hv dy an af := hG.2.2.1
  have hcn := hI.1
  have hSI : SI ln sz := hG.2.2.2
  have hPC : PC F pc lf := hC.1
  have hL : LC g F cn fr to hv dy an af := hC.2.2.1
  have hSC : SC F ln sz ce := hC.2.2.2.1
  refine lv_aload_n hx hb d_AP_send_0 rfl (lv_at hl 0 rfl) ?_
  refine lv_iload_n hx hb d_AP_send_1 rfl (lv_at hl 1 rfl) ?_
  by_cases zhq0 : inN zp0 pc
  · obtain ⟨zj0, rfl, zj0_1⟩ := inN_nat zhq0
    have zj0_e := nI_tI (j := zj0) (by omega)
    have zj0_t := tn_nI (j := zj0) (by omega)
    unfold inN at zhq0
    refine kRV hc hw lk_AP_96 (As := [.int (nI zj0)]) (rest := []) (c_AP_personAt_y l D g _ pc (hPC.1) hpcm hm6 (zj0) (zj0_1)) (rc_AP hw) ⟨Nat.le_of_ble_eq_true rfl, Nat.le_of_ble_eq_true rfl⟩ ⟨Nat.le_refl _, Nat.le_refl _⟩ rfl hl rfl (Nat.le_of_ble_eq_true rfl) d_AP_send_2 ?_
    refine lv_astore (lv' := [(5, .ref (wad g (79 + zj0))), (0, .ref (wad g 0)), (1, .int (nI zj0)), (2, .int zp1), (3, .int zp2), (4, .int zp3)]) hx hb d_AP_send_5 hl (by decide) rfl (fun ls hl => ?_)
    refine lv_aload hx hb d_AP_send_7 (lv_at hl 0 rfl) ?_
    refine lv_ifnull hx hb d_AP_send_9 ?_
    refine lv_aload_n hx hb d_AP_send_12 rfl (lv_at hl 1 rfl) ?_
    refine lv_iload_n hx hb d_AP_send_13 rfl (lv_at hl 3 rfl) ?_
    by_cases zhq1 : inN zp1 pc
    · obtain ⟨zj1, rfl, zj1_1⟩ := inN_nat zhq1
      have zj1_e := nI_tI (j := zj1) (by omega)
      have zj1_t := tn_nI (j := zj1) (by omega)
      unfold inN at zhq1
      refine kRV hc hw lk_AP_96 (As := [.int (nI zj1)]) (rest := []) (c_AP_personAt_y l D g _ pc (hPC.1) hpcm hm6 (zj1) (zj1_1)) (rc_AP hw) ⟨Nat.le_of_ble_eq_true rfl, Nat.le_of_ble_eq_true rfl⟩ ⟨Nat.le_refl _, Nat.le_refl _⟩ rfl hl rfl (Nat.le_of_ble_eq_true rfl) d_AP_send_14 ?_
      refine lv_ifnull hx hb d_AP_send_17 ?_
      refine lv_iload_n hx hb d_AP_send_20 rfl (lv_at hl 2 rfl) ?_
      refine lv_iload_n hx hb d_AP_send_21 rfl (lv_at hl 3 rfl) ?_
      refine q_icmp_ne (tgt := 27) hc (by omega) (by omega) d_AP_send_22 (by decide) (fun c_1 => ?_) (fun c_1 => ?_)
      · refine lv_iload_n hx hb d_AP_send_27 rfl (lv_at hl 4 rfl) ?_
        refine lv_iconst (v := nI 1) hx hb d_AP_send_28 (by decide) ?_
        refine lv_bipush (v := nI 99) hx hb d_AP_send_29 (by decide) ?_
        refine kRS hc hw lk_AP_67 (As := [.int zp2, .int (nI 1), .int (nI 99)]) (rest := []) (c_AP_isWithin l D g _ (zp2) (nI 1) (nI 99) 1 99 (by decide) (by decide)) ⟨Nat.le_of_ble_eq_true rfl, Nat.le_of_ble_eq_true rfl⟩ ⟨Nat.le_refl _, Nat.le_refl _⟩ rfl hl rfl (Nat.le_of_ble_eq_true rfl) d_AP_send_31 ?_
        refine b_if_eq (tgt := 45) hc d_AP_send_34 (by decide) (fun c_2 => ?_) (fun c_2 => ?_)
        · try unfold rng at c_2
          refine lv_bipush (v := (-2)) hx hb d_AP_send_45 (by decide) ?_
          exact W_i hc hw hr hlocks (by refine ⟨congrArg (fun z => some (Value.int z)) ?_, rfl, ?_, FrO.rf _ _ _⟩; (unfold s_send; (try simp only [inN, rng, zj0_t, zj0_e, zj1_t, zj1_e]); (repeat' split) <;> first | (exfalso; omega) | contradiction | rfl); (unfold s_send; (try simp only [inN, rng, zj0_t, zj0_e, zj1_t, zj1_e]); (repeat' split) <;> first | (exfalso; omega) | contradiction | exact hC)) d_AP_send_47
        · obtain ⟨zj2, rfl, zj2_1, zj2_2⟩ := rng_nat c_2 (by decide)
          have zj2_e := nI_tI (j := zj2) (by omega)
          have zj2_t := tn_nI (j := zj2) (by omega)
          try unfold rng at c_2
          refine lv_iload hx hb d_AP_send_37 (lv_at hl 5 rfl) ?_
          refine kRS hc hw lk_AP_113 (As := [.int zp3]) (rest := []) (c_AP_isDay l D g _ (zp3)) ⟨Nat.le_of_ble_eq_true rfl, Nat.le_of_ble_eq_true rfl⟩ ⟨Nat.le_refl _, Nat.le_refl _⟩ rfl hl rfl (Nat.le_of_ble_eq_true rfl) d_AP_send_39 ?_
          refine b_if_ne (tgt := 48) hc d_AP_send_42 (by decide) (fun c_3 => ?_) (fun c_3 => ?_)
          · obtain ⟨zj3, rfl, zj3_1, zj3_2⟩ := rng_nat c_3 (by decide)
            have zj3_e := nI_tI (j := zj3) (by omega)
            have zj3_t := tn_nI (j := zj3) (by omega)
            try unfold rng at c_3
            refine lv_aload_n hx hb d_AP_send_48 rfl (lv_at hl 1 rfl) ?_
            refine gf_AP_27 hc hw d_AP_send_49 ?_
            refine kRV hc hw lk_AP_117 (As := []) (rest := []) (c_LE_isFull l D g _ cn hL.1 hcn) (rc_LE hw) ⟨Nat.le_of_ble_eq_true rfl, Nat.le_of_ble_eq_true rfl⟩ ⟨Nat.le_refl _, Nat.le_refl _⟩ rfl hl rfl (Nat.le_of_ble_eq_true rfl) d_AP_send_52 ?_
            refine b_if_eq (tgt := 61) hc d_AP_send_55 (by decide) (fun c_4 => ?_) (fun c_4 => ?_)
            · refine lv_aload_n hx hb d_AP_send_61 rfl (lv_at hl 1 rfl) ?_
              refine gf_AP_27 hc hw d_AP_send_62 ?_
              refine lv_aload hx hb d_AP_send_65 (lv_at hl 0 rfl) ?_
              refine lv_iload_n hx hb d_AP_send_67 rfl (lv_at hl 3 rfl) ?_
              refine lv_iload_n hx hb d_AP_send_68 rfl (lv_at hl 4 rfl) ?_
              refine lv_iload hx hb d_AP_send_69 (lv_at hl 5 rfl) ?_
              refine kWV hc hw lk_AP_121 (h := 11) (As := [.ref (wad g (79 + zj0)), .int (nI zj1), .int (nI zj2), .int (nI zj3)]) (rest := []) (c_LE_write l D g _ pc cn fr to hv dy an af hI hL zj0 (zj1) (zj2) (zj3) (by omega) (by omega) (hper zj0 (by omega)).1 (by omega) (hPC.2 zj0 (by omega)).1) (rc_LE hw) ⟨Nat.le_of_ble_eq_true rfl, Nat.le_of_ble_eq_true rfl⟩ ⟨Nat.le_refl _, Nat.le_refl _⟩ rfl hl rfl (Nat.le_of_ble_eq_true rfl) d_AP_send_71 (fun v_5 g_6 F_7 H locs zhp_8 hw => ?_)
              obtain ⟨rfl, rfl, zhL2, zhF2⟩ := zhp_8
              exact W_i hc hw hr hlocks (by refine ⟨congrArg (fun z => some (Value.int z)) ?_, rfl, ?_, zhF2.wide (by decide) (by decide)⟩; (unfold s_send; (try simp only [inN, rng, zj0_t, zj0_e, zj1_t, zj1_e, zj2_t, zj2_e, zj3_t, zj3_e]); (repeat' split) <;> first | (exfalso; omega) | contradiction | rfl); (unfold s_send; (try simp only [inN, rng, zj0_t, zj0_e, zj1_t, zj1_e, zj2_t, zj2_e, zj3_t, zj3_e]); (repeat' split) <;> first | (exfalso; omega) | contradiction | exact CI_L hC zhL2 zhF2)) d_AP_send_74
            · refine lv_bipush (v := (-4)) hx hb d_AP_send_58 (by decide) ?_
              exact W_i hc hw hr hlocks (by refine ⟨congrArg (fun z => some (Value.int z)) ?_, rfl, ?_, FrO.rf _ _ _⟩; (unfold s_send; (try simp only [inN, rng, zj0_t, zj0_e, zj1_t, zj1_e, zj2_t, zj2_e, zj3_t, zj3_e]); (repeat' split) <;> first | (exfalso; omega) | contradiction | rfl); (unfold s_send; (try simp only [inN, rng, zj0_t, zj0_e, zj1_t, zj1_e, zj2_t, zj2_e, zj3_t, zj3_e]); (repeat' split) <;> first | (exfalso; omega) | contradiction | exact hC)) d_AP_send_60
          · try unfold rng at c_3
            refine lv_bipush (v := (-2)) hx hb d_AP_send_45 (by decide) ?_
            exact W_i hc hw hr hlocks (by refine ⟨congrArg (fun z => some (Value.int z)) ?_, rfl, ?_, FrO.rf _ _ _⟩; (unfold s_send; (try simp only [inN, rng, zj0_t, zj0_e, zj1_t, zj1_e, zj2_t, zj2_e]); (repeat' split) <;> first | (exfalso; omega) | contradiction | rfl); (unfold s_send; (try simp only [inN, rng, zj0_t, zj0_e, zj1_t, zj1_e, zj2_t, zj2_e]); (repeat' split) <;> first | (exfalso; omega) | contradiction | exact hC)) d_AP_send_47
      · refine lv_iconst (v := (-1)) hx hb d_AP_send_25 (by decide) ?_
        exact W_i hc hw hr hlocks (by refine ⟨congrArg (fun z => some (Value.int z)) ?_, rfl, ?_, FrO.rf _ _ _⟩; (unfold s_send; (try simp only [inN, rng, zj0_t, zj0_e, zj1_t, zj1_e]); (repeat' split) <;> first | (exfalso; omega) | contradiction | rfl); (unfold s_send; (try simp only [inN, rng, zj0_t, zj0_e, zj1_t, zj1_e]); (repeat' split) <;> first | (exfalso; omega) | contradiction | exact hC)) d_AP_send_26
    · refine kRV hc hw lk_AP_96 (As := [.int zp1]) (rest := []) (c_AP_personAt_n l D g _ pc (hPC.1) hpc6 zp1 zhq1) (rc_AP hw) ⟨Nat.le_of_ble_eq_true rfl, Nat.le_of_ble_eq_true rfl⟩ ⟨Nat.le_refl _, Nat.le_refl _⟩ rfl hl rfl (Nat.le_of_ble_eq_true rfl) d_AP_send_14 ?_
      unfold inN at zhq1
      refine lv_ifnullN (tgt := 25) hx hb d_AP_send_17 (by decide) ?_
      refine lv_iconst (v := (-1)) hx hb d_AP_send_25 (by decide) ?_
      exact W_i hc hw hr hlocks (by refine ⟨congrArg (fun z => some (Value.int z)) ?_, rfl, ?_, FrO.rf _ _ _⟩; (unfold s_send; (try simp only [inN, rng, zj0_t, zj0_e]); (repeat' split) <;> first | (exfalso; omega) | contradiction | rfl); (unfold s_send; (try simp only [inN, rng, zj0_t, zj0_e]); (repeat' split) <;> first | (exfalso; omega) | contradiction | exact hC)) d_AP_send_26
  · refine kRV hc hw lk_AP_96 (As := [.int zp0]) (rest := []) (c_AP_personAt_n l D g _ pc (hPC.1) hpc6 zp0 zhq0) (rc_AP hw) ⟨Nat.le_of_ble_eq_true rfl, Nat.le_of_ble_eq_true rfl⟩ ⟨Nat.le_refl _, Nat.le_refl _⟩ rfl hl rfl (Nat.le_of_ble_eq_true rfl) d_AP_send_2 ?_
    unfold inN at zhq0
    refine lv_astoreN (lv' := [(5, .null), (0, .ref (wad g 0)), (1, .int zp0), (2, .int zp1), (3, .int zp2), (4, .int zp3)]) hx hb d_AP_send_5 hl (by decide) rfl (fun ls hl => ?_)
    refine lv_aloadN hx hb d_AP_send_7 (lv_at hl 0 rfl) ?_
    refine lv_ifnullN (tgt := 25) hx hb d_AP_send_9 (by decide) ?_
    refine lv_iconst (v := (-1)) hx hb d_AP_send_25 (by decide) ?_
    exact W_i hc hw hr hlocks (by refine ⟨congrArg (fun z => some (Value.int z)) ?_, rfl, ?_, FrO.rf _ _ _⟩; (unfold s_send; (try simp only [inN, rng]); (repeat' split) <;> first | (exfalso; omega) | contradiction | rfl); (unfold s_send; (try simp only [inN, rng]); (repeat' split) <;> first | (exfalso; omega) | contradiction | exact hC)) d_AP_send_26
set_option maxHeartbeats 4000000 in
theorem c_AP_answer (l : Launch) (D : va_G) (g : wG) (F : wF) (pc : Nat) (lf : Nat → Nat) (lw : Nat) (cn : Nat) (fr to hv dy : Nat → Nat) (an af : Nat → Option Nat) (ln : Nat → Option Nat) (sz : Nat → Nat) (ce : Nat → Nat → Int32) (tr ft : Int32) (hG : GI g (pc, lf) lw (cn, fr, to, hv, dy, an, af) (ln, sz, ce)) (hC : CI g F (pc, lf) lw (cn, fr, to, hv, dy, an, af) (ln, sz, ce) tr ft) (zp0 zp1 zp2 : Int32) : CW l y_AP_answer b_AP_answer 6 (Option.some Jvm.ClassFile.FieldType.int) 3 0 0 D g F [.ref (wad g 0), .int zp0, .int zp1, .int zp2] (fun v g2 u => v = some (.int (s_answer (cn, fr, to, hv, dy, an, af) zp0 zp1 zp2).1) ∧ g = g2 ∧ CI g u (pc, lf) lw (s_answer (cn, fr, to, hv, dy, an, af) zp0 zp1 zp2).2 (ln, sz, ce) tr ft ∧ FrO 0 57 F u) := by
  refine CW.start rfl (Nat.le_of_ble_eq_true rfl) ?_
  intro p e s m args below meth c A ls hc hr hlocks hw hl
  have hl : lv_has ls 6 [(0, .ref (wad g 0)), (1, .int zp0), (2, .int zp1), (3, .int zp2)] := hl
  have hx := hc.1
  have hb := hc.2.1
  obtain ⟨hpc6, hpcm, hm6, hpc0, hper⟩ : PI g pc lf := hG.1
  have hlw : lw ≤ 2 := hG.2.1
  have hI : LI pc cn fr to hv dy an af := hG.2.2.1
  have hcn := hI.1
  have hSI : SI ln sz := hG.2.2.2
  have hPC : PC F pc lf := hC.1
  have hL : LC g F cn fr to hv dy an af := hC.2.2.1
  have hSC : SC F ln sz ce := hC.2.2.2.1
  refine lv_aload_n hx hb d_AP_answer_0 rfl (lv_at hl 0 rfl) ?_
  refine gf_AP_27 hc hw d_AP_answer_1 ?_
  refine lv_iload_n hx hb d_AP_answer_4 rfl (lv_at hl 1 rfl) ?_
  refine kRV hc hw lk_AP_125 (As := [.int zp0]) (rest := []) (c_LE_has l D g _ cn hL.1 hcn (zp0)) (rc_LE hw) ⟨Nat.le_of_ble_eq_true rfl, Nat.le_of_ble_eq_true rfl⟩ ⟨Nat.le_refl _, Nat.le_refl _⟩ rfl hl rfl (Nat.le_of_ble_eq_true rfl) d_AP_answer_5 ?_
  refine b_if_ne (tgt := 13) hc d_AP_answer_8 (by decide) (fun c_1 => ?_) (fun c_1 => ?_)
  · obtain ⟨zj0, rfl, zj0_1⟩ := inN_nat c_1
    have zj0_e := nI_tI (j := zj0) (by omega)
    have zj0_t := tn_nI (j := zj0) (by omega)
    try unfold inN at c_1
    obtain ⟨⟨hi1, hi2, hi3, hi4, hi5, hi6⟩, hi7, hi8⟩ := hI.2 zj0 (by omega)
    refine lv_iload_n hx hb d_AP_answer_13 rfl (lv_at hl 2 rfl) ?_
    refine lv_iconst (v := nI 1) hx hb d_AP_answer_14 (by decide) ?_
    refine lv_bipush (v := nI 99) hx hb d_AP_answer_15 (by decide) ?_
    refine kRS hc hw lk_AP_67 (As := [.int zp1, .int (nI 1), .int (nI 99)]) (rest := []) (c_AP_isWithin l D g _ (zp1) (nI 1) (nI 99) 1 99 (by decide) (by decide)) ⟨Nat.le_of_ble_eq_true rfl, Nat.le_of_ble_eq_true rfl⟩ ⟨Nat.le_refl _, Nat.le_refl _⟩ rfl hl rfl (Nat.le_of_ble_eq_true rfl) d_AP_answer_17 ?_
    refine b_if_eq (tgt := 43) hc d_AP_answer_20 (by decide) (fun c_2 => ?_) (fun c_2 => ?_)
    · try unfold rng at c_2
      refine lv_bipush (v := (-2)) hx hb d_AP_answer_43 (by decide) ?_
      exact W_i hc hw hr hlocks (by refine ⟨congrArg (fun z => some (Value.int z)) ?_, rfl, ?_, FrO.rf _ _ _⟩; (unfold s_answer; (try simp only [inN, rng, zj0_t, zj0_e]); (repeat' split) <;> first | (exfalso; omega) | contradiction | rfl); (unfold s_answer; (try simp only [inN, rng, zj0_t, zj0_e]); (repeat' split) <;> first | (exfalso; omega) | contradiction | exact hC)) d_AP_answer_45
    · obtain ⟨zj1, rfl, zj1_1, zj1_2⟩ := rng_nat c_2 (by decide)
      have zj1_e := nI_tI (j := zj1) (by omega)
      have zj1_t := tn_nI (j := zj1) (by omega)
      try unfold rng at c_2
      refine lv_iload_n hx hb d_AP_answer_23 rfl (lv_at hl 3 rfl) ?_
      refine kRS hc hw lk_AP_113 (As := [.int zp2]) (rest := []) (c_AP_isDay l D g _ (zp2)) ⟨Nat.le_of_ble_eq_true rfl, Nat.le_of_ble_eq_true rfl⟩ ⟨Nat.le_refl _, Nat.le_refl _⟩ rfl hl rfl (Nat.le_of_ble_eq_true rfl) d_AP_answer_24 ?_
      refine b_if_eq (tgt := 43) hc d_AP_answer_27 (by decide) (fun c_3 => ?_) (fun c_3 => ?_)
      · try unfold rng at c_3
        refine lv_bipush (v := (-2)) hx hb d_AP_answer_43 (by decide) ?_
        exact W_i hc hw hr hlocks (by refine ⟨congrArg (fun z => some (Value.int z)) ?_, rfl, ?_, FrO.rf _ _ _⟩; (unfold s_answer; (try simp only [inN, rng, zj0_t, zj0_e, zj1_t, zj1_e]); (repeat' split) <;> first | (exfalso; omega) | contradiction | rfl); (unfold s_answer; (try simp only [inN, rng, zj0_t, zj0_e, zj1_t, zj1_e]); (repeat' split) <;> first | (exfalso; omega) | contradiction | exact hC)) d_AP_answer_45
      · obtain ⟨zj2, rfl, zj2_1, zj2_2⟩ := rng_nat c_3 (by decide)
        have zj2_e := nI_tI (j := zj2) (by omega)
        have zj2_t := tn_nI (j := zj2) (by omega)
        try unfold rng at c_3
        refine lv_iload_n hx hb d_AP_answer_30 rfl (lv_at hl 3 rfl) ?_
        refine lv_aload_n hx hb d_AP_answer_31 rfl (lv_at hl 0 rfl) ?_
        refine gf_AP_27 hc hw d_AP_answer_32 ?_
        refine gf_AP_128 hc hw d_AP_answer_35 ?_
        refine lv_iload_n hx hb d_AP_answer_38 rfl (lv_at hl 1 rfl) ?_
        refine r_iald hc hw (h := 15) (n := 24) (i := zj0) (fun _ => rfl) (by omega) (by omega) (by decide) d_AP_answer_39 (v := .int (nI (dy zj0))) (congrArg Value.int ((hL.2 (zj0) (by omega)).2.2.2.1)) ?_
        refine q_icmp_ge (tgt := 46) hc (by omega) (by omega) d_AP_answer_40 (by decide) (fun c_4 => ?_) (fun c_4 => ?_)
        · refine lv_aload_n hx hb d_AP_answer_46 rfl (lv_at hl 0 rfl) ?_
          refine gf_AP_27 hc hw d_AP_answer_47 ?_
          refine lv_iload_n hx hb d_AP_answer_50 rfl (lv_at hl 1 rfl) ?_
          refine kRV hc hw lk_AP_131 (As := [.int (nI zj0)]) (rest := []) (c_LE_isAnswered l D g _ pc cn fr to hv dy an af hI hL (zj0) (by omega)) (rc_LE hw) ⟨Nat.le_of_ble_eq_true rfl, Nat.le_of_ble_eq_true rfl⟩ ⟨Nat.le_refl _, Nat.le_refl _⟩ rfl hl rfl (Nat.le_of_ble_eq_true rfl) d_AP_answer_51 ?_
          refine b_if_eq (tgt := 60) hc d_AP_answer_54 (by decide) (fun c_5 => ?_) (fun c_5 => ?_)
          · refine lv_aload_n hx hb d_AP_answer_60 rfl (lv_at hl 0 rfl) ?_
            refine gf_AP_27 hc hw d_AP_answer_61 ?_
            refine kRV hc hw lk_AP_117 (As := []) (rest := []) (c_LE_isFull l D g _ cn hL.1 hcn) (rc_LE hw) ⟨Nat.le_of_ble_eq_true rfl, Nat.le_of_ble_eq_true rfl⟩ ⟨Nat.le_refl _, Nat.le_refl _⟩ rfl hl rfl (Nat.le_of_ble_eq_true rfl) d_AP_answer_64 ?_
            refine b_if_eq (tgt := 73) hc d_AP_answer_67 (by decide) (fun c_6 => ?_) (fun c_6 => ?_)
            · refine lv_aload_n hx hb d_AP_answer_73 rfl (lv_at hl 0 rfl) ?_
              refine lv_aload_n hx hb d_AP_answer_74 rfl (lv_at hl 0 rfl) ?_
              refine gf_AP_27 hc hw d_AP_answer_75 ?_
              refine gf_AP_134 hc hw d_AP_answer_78 ?_
              refine lv_iload_n hx hb d_AP_answer_81 rfl (lv_at hl 1 rfl) ?_
              refine r_iald hc hw (h := 13) (n := 24) (i := zj0) (fun _ => rfl) (by omega) (by omega) (by decide) d_AP_answer_82 (v := .int (nI (to zj0))) (congrArg Value.int ((hL.2 (zj0) (by omega)).2.1)) ?_
              refine kRV hc hw lk_AP_96 (As := [.int (nI (to zj0))]) (rest := []) (c_AP_personAt_y l D g _ pc (hPC.1) hpcm hm6 (to zj0) (by omega)) (rc_AP hw) ⟨Nat.le_of_ble_eq_true rfl, Nat.le_of_ble_eq_true rfl⟩ ⟨Nat.le_refl _, Nat.le_refl _⟩ rfl hl rfl (Nat.le_of_ble_eq_true rfl) d_AP_answer_83 ?_
              refine lv_astore (lv' := [(4, .ref (wad g (79 + (to zj0)))), (0, .ref (wad g 0)), (1, .int (nI zj0)), (2, .int (nI zj1)), (3, .int (nI zj2))]) hx hb d_AP_answer_86 hl (by decide) rfl (fun ls hl => ?_)
              refine lv_aload hx hb d_AP_answer_88 (lv_at hl 0 rfl) ?_
              refine lv_ifnonnull (tgt := 95) hx hb d_AP_answer_90 (by decide) ?_
              refine lv_aload_n hx hb d_AP_answer_95 rfl (lv_at hl 1 rfl) ?_
              refine gf_AP_27 hc hw d_AP_answer_96 ?_
              refine lv_aload hx hb d_AP_answer_99 (lv_at hl 0 rfl) ?_
              refine lv_aload_n hx hb d_AP_answer_101 rfl (lv_at hl 1 rfl) ?_
              refine gf_AP_27 hc hw d_AP_answer_102 ?_
              refine gf_AP_137 hc hw d_AP_answer_105 ?_
              refine lv_iload_n hx hb d_AP_answer_108 rfl (lv_at hl 2 rfl) ?_
              refine r_iald hc hw (h := 12) (n := 24) (i := zj0) (fun _ => rfl) (by omega) (by omega) (by decide) d_AP_answer_109 (v := .int (nI (fr zj0))) (congrArg Value.int ((hL.2 (zj0) (by omega)).1)) ?_
              refine lv_iload_n hx hb d_AP_answer_110 rfl (lv_at hl 3 rfl) ?_
              refine lv_iload_n hx hb d_AP_answer_111 rfl (lv_at hl 4 rfl) ?_
              refine kWV hc hw lk_AP_121 (h := 11) (As := [.ref (wad g (79 + (to zj0))), .int (nI (fr zj0)), .int (nI zj1), .int (nI zj2)]) (rest := []) (c_LE_write l D g _ pc cn fr to hv dy an af hI hL ((to zj0)) (fr zj0) (zj1) (zj2) (by omega) (by omega) (hper ((to zj0)) (by omega)).1 (by omega) (hPC.2 ((to zj0)) (by omega)).1) (rc_LE hw) ⟨Nat.le_of_ble_eq_true rfl, Nat.le_of_ble_eq_true rfl⟩ ⟨Nat.le_refl _, Nat.le_refl _⟩ rfl hl rfl (Nat.le_of_ble_eq_true rfl) d_AP_answer_112 (fun v_7 g_8 F_9 H locs zhp_10 hw => ?_)
              obtain ⟨rfl, rfl, zhL2, zhF2⟩ := zhp_10
              refine lv_istore (lv' := [(5, .int (nI cn)), (4, .ref (wad g (79 + (to zj0)))), (0, .ref (wad g 0)), (1, .int (nI zj0)), (2, .int (nI zj1)), (3, .int (nI zj2))]) hx hb d_AP_answer_115 hl (by decide) rfl (fun ls hl => ?_)
              refine lv_aload_n hx hb d_AP_answer_117 rfl (lv_at hl 2 rfl) ?_
              refine gf_AP_27 hc hw d_AP_answer_118 ?_
              refine lv_iload_n hx hb d_AP_answer_121 rfl (lv_at hl 3 rfl) ?_
              refine lv_iload hx hb d_AP_answer_122 (lv_at hl 0 rfl) ?_
              refine kWV hc hw lk_AP_140 (h := 11) (As := [.int (nI zj0), .int (nI cn)]) (rest := []) (c_LE_pair l D g _ _ _ _ _ _ _ _ zhL2 (zj0) (cn) (by omega) (by omega)) (rc_LE hw) ⟨Nat.le_of_ble_eq_true rfl, Nat.le_of_ble_eq_true rfl⟩ ⟨Nat.le_refl _, Nat.le_refl _⟩ rfl hl rfl (Nat.le_of_ble_eq_true rfl) d_AP_answer_124 (fun v_11 g_12 F_13 H locs zhp_14 hw => ?_)
              obtain ⟨rfl, rfl, zhL3, zhF3⟩ := zhp_14
              rw [bx_uu] at zhL3
              refine lv_iload hx hb d_AP_answer_127 (lv_at hl 0 rfl) ?_
              exact W_i hc hw hr hlocks (by refine ⟨congrArg (fun z => some (Value.int z)) ?_, rfl, ?_, (zhF2.tr zhF3).wide (by decide) (by decide)⟩; (unfold s_answer; (try simp only [inN, rng, zj0_t, zj0_e, zj1_t, zj1_e, zj2_t, zj2_e]); (repeat' split) <;> first | (exfalso; omega) | contradiction | rfl); (unfold s_answer; (try simp only [inN, rng, zj0_t, zj0_e, zj1_t, zj1_e, zj2_t, zj2_e]); (repeat' split) <;> first | (exfalso; omega) | contradiction | exact CI_L hC zhL3 (zhF2.tr zhF3))) d_AP_answer_129
            · refine lv_bipush (v := (-4)) hx hb d_AP_answer_70 (by decide) ?_
              exact W_i hc hw hr hlocks (by refine ⟨congrArg (fun z => some (Value.int z)) ?_, rfl, ?_, FrO.rf _ _ _⟩; (unfold s_answer; (try simp only [inN, rng, zj0_t, zj0_e, zj1_t, zj1_e, zj2_t, zj2_e]); (repeat' split) <;> first | (exfalso; omega) | contradiction | rfl); (unfold s_answer; (try simp only [inN, rng, zj0_t, zj0_e, zj1_t, zj1_e, zj2_t, zj2_e]); (repeat' split) <;> first | (exfalso; omega) | contradiction | exact hC)) d_AP_answer_72
          · refine lv_bipush (v := (-3)) hx hb d_AP_answer_57 (by decide) ?_
            exact W_i hc hw hr hlocks (by refine ⟨congrArg (fun z => some (Value.int z)) ?_, rfl, ?_, FrO.rf _ _ _⟩; (unfold s_answer; (try simp only [inN, rng, zj0_t, zj0_e, zj1_t, zj1_e, zj2_t, zj2_e]); (repeat' split) <;> first | (exfalso; omega) | contradiction | rfl); (unfold s_answer; (try simp only [inN, rng, zj0_t, zj0_e, zj1_t, zj1_e, zj2_t, zj2_e]); (repeat' split) <;> first | (exfalso; omega) | contradiction | exact hC)) d_AP_answer_59
        · refine lv_bipush (v := (-2)) hx hb d_AP_answer_43 (by decide) ?_
          exact W_i hc hw hr hlocks (by refine ⟨congrArg (fun z => some (Value.int z)) ?_, rfl, ?_, FrO.rf _ _ _⟩; (unfold s_answer; (try simp only [inN, rng, zj0_t, zj0_e, zj1_t, zj1_e, zj2_t, zj2_e]); (repeat' split) <;> first | (exfalso; omega) | contradiction | rfl); (unfold s_answer; (try simp only [inN, rng, zj0_t, zj0_e, zj1_t, zj1_e, zj2_t, zj2_e]); (repeat' split) <;> first | (exfalso; omega) | contradiction | exact hC)) d_AP_answer_45
  · try unfold inN at c_1
    refine lv_iconst (v := (-1)) hx hb d_AP_answer_11 (by decide) ?_
    exact W_i hc hw hr hlocks (by refine ⟨congrArg (fun z => some (Value.int z)) ?_, rfl, ?_, FrO.rf _ _ _⟩; (unfold s_answer; (try simp only [inN, rng]); (repeat' split) <;> first | (exfalso; omega) | contradiction | rfl); (unfold s_answer; (try simp only [inN, rng]); (repeat' split) <;> first | (exfalso; omega) | contradiction | exact hC)) d_AP_answer_12
set_option maxHeartbeats 4000000 in
theorem c_AP_burn (l : Launch) (D : va_G) (g : wG) (F : wF) (pc : Nat) (lf : Nat → Nat) (lw : Nat) (cn : Nat) (fr to hv dy : Nat → Nat) (an af : Nat → Option Nat) (ln : Nat → Option Nat) (sz : Nat → Nat) (ce : Nat → Nat → Int32) (tr ft : Int32) (hG : GI g (pc, lf) lw (cn, fr, to, hv, dy, an, af) (ln, sz, ce)) (hC : CI g F (pc, lf) lw (cn, fr, to, hv, dy, an, af) (ln, sz, ce) tr ft) (zp0 : Int32) : CW l y_AP_burn b_AP_burn 2 (Option.some Jvm.ClassFile.FieldType.int) 3 0 0 D g F [.ref (wad g 0), .int zp0] (fun v g2 u => v = some (.int (s_burn (cn, fr, to, hv, dy, an, af) zp0).1) ∧ g = g2 ∧ CI g u (pc, lf) lw (s_burn (cn, fr, to, hv, dy, an, af) zp0).2 (ln, sz, ce) tr ft ∧ FrO 0 57 F u) := by
  refine CW.start rfl (Nat.le_of_ble_eq_true rfl) ?_
  intro p e s m args below meth c A ls hc hr hlocks hw hl
  have hl : lv_has ls 2 [(0, .ref (wad g 0)), (1, .int zp0)] := hl
  have hx := hc.1
  have hb := hc.2.1
  obtain ⟨hpc6, hpcm, hm6, hpc0, hper⟩ : PI g pc lf := hG.1
  have hlw : lw ≤ 2 := hG.2.1
  have hI : LI pc cn fr to hv dy an af := hG.2.2.1
  have hcn := hI.1
  have hSI : SI ln sz := hG.2.2.2
  have hPC : PC F pc lf := hC.1
  have hL : LC g F cn fr to hv dy an af := hC.2.2.1
  have hSC : SC F ln sz ce := hC.2.2.2.1
  refine lv_iload_n hx hb d_AP_burn_0 rfl (lv_at hl 1 rfl) ?_
  refine lv_iconst (v := nI 0) hx hb d_AP_burn_1 (by decide) ?_
  refine lv_aload_n hx hb d_AP_burn_2 rfl (lv_at hl 0 rfl) ?_
  refine gf_AP_27 hc hw d_AP_burn_3 ?_
  refine gf_AP_156 hc hw d_AP_burn_6 (v := .int (nI cn)) (congrArg Value.int (hL.1)) ?_
  refine kRS hc hw lk_AP_67 (As := [.int zp0, .int (nI 0), .int (nI cn)]) (rest := []) (c_AP_isWithin l D g _ (zp0) (nI 0) (nI cn) 0 ((cn : Nat) : Int) (by decide) (nI_tI (by omega))) ⟨Nat.le_of_ble_eq_true rfl, Nat.le_of_ble_eq_true rfl⟩ ⟨Nat.le_refl _, Nat.le_refl _⟩ rfl hl rfl (Nat.le_of_ble_eq_true rfl) d_AP_burn_9 ?_
  refine b_if_ne (tgt := 18) hc d_AP_burn_12 (by decide) (fun c_1 => ?_) (fun c_1 => ?_)
  · obtain ⟨zj0, rfl, zj0_1, zj0_2⟩ := rng_nat c_1 (by decide)
    have zj0_e := nI_tI (j := zj0) (by omega)
    have zj0_t := tn_nI (j := zj0) (by omega)
    try unfold rng at c_1
    refine lv_aload_n hx hb d_AP_burn_18 rfl (lv_at hl 0 rfl) ?_
    refine gf_AP_27 hc hw d_AP_burn_19 ?_
    refine lv_iload_n hx hb d_AP_burn_22 rfl (lv_at hl 1 rfl) ?_
    refine kWV hc hw lk_AP_159 (h := 11) (As := [.int (nI zj0)]) (rest := []) (c_LE_burnLast l D g _ pc cn fr to hv dy an af hI hL (zj0) (by omega)) (rc_LE hw) ⟨Nat.le_of_ble_eq_true rfl, Nat.le_of_ble_eq_true rfl⟩ ⟨Nat.le_refl _, Nat.le_refl _⟩ rfl hl rfl (Nat.le_of_ble_eq_true rfl) d_AP_burn_23 (fun v_2 g_3 F_4 H locs zhp_5 hw => ?_)
    obtain ⟨rfl, rfl, zhL2, zhF2⟩ := zhp_5
    refine lv_aload_n hx hb d_AP_burn_26 rfl (lv_at hl 0 rfl) ?_
    refine gf_AP_27 hc hw d_AP_burn_27 ?_
    refine gf_AP_156 hc hw d_AP_burn_30 (v := .int (nI (cn - zj0))) (congrArg Value.int (zhL2.1)) ?_
    exact W_i hc hw hr hlocks (by refine ⟨congrArg (fun z => some (Value.int z)) ?_, rfl, ?_, zhF2.wide (by decide) (by decide)⟩; (unfold s_burn; (try simp only [inN, rng, zj0_t, zj0_e]); (repeat' split) <;> first | (exfalso; omega) | contradiction | rfl); (unfold s_burn; (try simp only [inN, rng, zj0_t, zj0_e]); (repeat' split) <;> first | (exfalso; omega) | contradiction | exact CI_L hC zhL2 zhF2)) d_AP_burn_33
  · try unfold rng at c_1
    refine lv_bipush (v := (-2)) hx hb d_AP_burn_15 (by decide) ?_
    exact W_i hc hw hr hlocks (by refine ⟨congrArg (fun z => some (Value.int z)) ?_, rfl, ?_, FrO.rf _ _ _⟩; (unfold s_burn; (try simp only [inN, rng]); (repeat' split) <;> first | (exfalso; omega) | contradiction | rfl); (unfold s_burn; (try simp only [inN, rng]); (repeat' split) <;> first | (exfalso; omega) | contradiction | exact hC)) d_AP_burn_17
set_option maxHeartbeats 4000000 in
theorem c_AP_tell (l : Launch) (D : va_G) (g : wG) (F : wF) (pc : Nat) (lf : Nat → Nat) (lw : Nat) (cn : Nat) (fr to hv dy : Nat → Nat) (an af : Nat → Option Nat) (ln : Nat → Option Nat) (sz : Nat → Nat) (ce : Nat → Nat → Int32) (tr ft : Int32) (hG : GI g (pc, lf) lw (cn, fr, to, hv, dy, an, af) (ln, sz, ce)) (hC : CI g F (pc, lf) lw (cn, fr, to, hv, dy, an, af) (ln, sz, ce) tr ft) (zp0 : Int32) : CW l y_AP_tell b_AP_tell 3 (Option.some Jvm.ClassFile.FieldType.int) 6 0 0 D g F [.ref (wad g 0), .int zp0] (fun v g2 u => v = some (.int (s_tell (wK g) (pc, lf) tr zp0).1) ∧ g = g2 ∧ CI g u (pc, lf) lw (cn, fr, to, hv, dy, an, af) (ln, sz, ce) (s_tell (wK g) (pc, lf) tr zp0).2 ft ∧ FrO 0 57 F u) := by
  refine CW.start rfl (Nat.le_of_ble_eq_true rfl) ?_
  intro p e s m args below meth c A ls hc hr hlocks hw hl
  have hl : lv_has ls 3 [(0, .ref (wad g 0)), (1, .int zp0)] := hl
  have hx := hc.1
  have hb := hc.2.1
  obtain ⟨hpc6, hpcm, hm6, hpc0, hper⟩ : PI g pc lf := hG.1
  have hlw : lw ≤ 2 := hG.2.1
  have hI : LI pc cn fr to hv dy an af := hG.2.2.1
  have hcn := hI.1
  have hSI : SI ln sz := hG.2.2.2
  have hPC : PC F pc lf := hC.1
  have hL : LC g F cn fr to hv dy an af := hC.2.2.1
  have hSC : SC F ln sz ce := hC.2.2.2.1
  refine lv_aload_n hx hb d_AP_tell_0 rfl (lv_at hl 0 rfl) ?_
  refine lv_iload_n hx hb d_AP_tell_1 rfl (lv_at hl 1 rfl) ?_
  by_cases zhq0 : inN zp0 pc
  · obtain ⟨zj0, rfl, zj0_1⟩ := inN_nat zhq0
    have zj0_e := nI_tI (j := zj0) (by omega)
    have zj0_t := tn_nI (j := zj0) (by omega)
    unfold inN at zhq0
    refine kRV hc hw lk_AP_96 (As := [.int (nI zj0)]) (rest := []) (c_AP_personAt_y l D g _ pc (hPC.1) hpcm hm6 (zj0) (zj0_1)) (rc_AP hw) ⟨Nat.le_of_ble_eq_true rfl, Nat.le_of_ble_eq_true rfl⟩ ⟨Nat.le_refl _, Nat.le_refl _⟩ rfl hl rfl (Nat.le_of_ble_eq_true rfl) d_AP_tell_2 ?_
    refine lv_astore_n (lv' := [(2, .ref (wad g (79 + zj0))), (0, .ref (wad g 0)), (1, .int (nI zj0))]) hx hb d_AP_tell_5 rfl hl (by decide) rfl (fun ls hl => ?_)
    refine lv_aload_n hx hb d_AP_tell_6 rfl (lv_at hl 0 rfl) ?_
    refine lv_ifnonnull (tgt := 14) hx hb d_AP_tell_7 (by decide) ?_
    refine lv_aload_n hx hb d_AP_tell_14 rfl (lv_at hl 0 rfl) ?_
    refine lv_aload_n hx hb d_AP_tell_15 rfl (lv_at hl 1 rfl) ?_
    refine gf_AP_55 hc hw d_AP_tell_16 ?_
    rcases (show wK g zj0 = 0 ∨ wK g zj0 = 1 ∨ wK g zj0 = 2 from by have := (hper zj0 (by omega)).1; omega) with hk0 | hk0 | hk0
    · refine kWU hc hw lu_AP_242_WR (h := 79 + zj0) (As := [.ref (wad g 57)]) (rest := []) (c_WR_telling l D g _ zj0 (by omega) (hper zj0 (by omega)).1 (lf zj0) (hPC.2 zj0 (by omega)).2 tr hC.2.2.2.2.1) (rc_WR hw (by omega) hk0) ⟨Nat.le_of_ble_eq_true rfl, Nat.le_of_ble_eq_true rfl⟩ ⟨Nat.le_refl _, Nat.le_refl _⟩ rfl hl rfl (Nat.le_of_ble_eq_true rfl) d_AP_tell_19 (fun v_1 g_2 F_3 H locs zhp_4 hw => ?_)
      obtain ⟨rfl, rfl, rfl⟩ := zhp_4
      exact W_i hc hw hr hlocks (by refine ⟨congrArg (fun z => some (Value.int z)) ?_, rfl, ?_, (by repeat (first | exact FrO.rf _ _ _ | assumption | refine FrO.up ?_ (by decide) (by decide)))⟩; (unfold s_tell; (try simp only [inN, rng, zj0_t, zj0_e, tlN, tlT]); (repeat' split) <;> first | (exfalso; omega) | contradiction | rfl); (unfold s_tell; (try simp only [inN, rng, zj0_t, zj0_e, tlN, tlT]); (repeat' split) <;> first | (exfalso; omega) | contradiction | exact hC | exact CI_tr hC _ | exact CI_tr (CI_tr hC _) _ | exact CI_tr (CI_tr (CI_tr (CI_tr hC _) _) _) _)) d_AP_tell_22
    · refine kWU hc hw lu_AP_242_MI (h := 79 + zj0) (As := [.ref (wad g 57)]) (rest := []) (c_MI_telling l D g _ zj0 (by omega) (hper zj0 (by omega)).1 1 (by decide) hk0 (lf zj0) (hPC.2 zj0 (by omega)).2 tr hC.2.2.2.2.1) (rc_MI hw (by omega) hk0) ⟨Nat.le_of_ble_eq_true rfl, Nat.le_of_ble_eq_true rfl⟩ ⟨Nat.le_refl _, Nat.le_refl _⟩ rfl hl rfl (Nat.le_of_ble_eq_true rfl) d_AP_tell_19 (fun v_5 g_6 F_7 H locs zhp_8 hw => ?_)
      obtain ⟨rfl, rfl, rfl⟩ := zhp_8
      exact W_i hc hw hr hlocks (by refine ⟨congrArg (fun z => some (Value.int z)) ?_, rfl, ?_, (by repeat (first | exact FrO.rf _ _ _ | assumption | refine FrO.up ?_ (by decide) (by decide)))⟩; (unfold s_tell; (try simp only [inN, rng, zj0_t, zj0_e, tlN, tlT]); (repeat' split) <;> first | (exfalso; omega) | contradiction | rfl); (unfold s_tell; (try simp only [inN, rng, zj0_t, zj0_e, tlN, tlT]); (repeat' split) <;> first | (exfalso; omega) | contradiction | exact hC | exact CI_tr hC _ | exact CI_tr (CI_tr hC _) _ | exact CI_tr (CI_tr (CI_tr (CI_tr hC _) _) _) _)) d_AP_tell_22
    · refine kWU hc hw lu_AP_242_LA (h := 79 + zj0) (As := [.ref (wad g 57)]) (rest := []) (c_LA_telling l D g _ zj0 (by omega) (hper zj0 (by omega)).1 hk0 (lf zj0) (hPC.2 zj0 (by omega)).2 tr hC.2.2.2.2.1) (rc_LA hw (by omega) hk0) ⟨Nat.le_of_ble_eq_true rfl, Nat.le_of_ble_eq_true rfl⟩ ⟨Nat.le_refl _, Nat.le_refl _⟩ rfl hl rfl (Nat.le_of_ble_eq_true rfl) d_AP_tell_19 (fun v_9 g_10 F_11 H locs zhp_12 hw => ?_)
      obtain ⟨rfl, rfl, rfl⟩ := zhp_12
      exact W_i hc hw hr hlocks (by refine ⟨congrArg (fun z => some (Value.int z)) ?_, rfl, ?_, (by repeat (first | exact FrO.rf _ _ _ | assumption | refine FrO.up ?_ (by decide) (by decide)))⟩; (unfold s_tell; (try simp only [inN, rng, zj0_t, zj0_e, tlN, tlT]); (repeat' split) <;> first | (exfalso; omega) | contradiction | rfl); (unfold s_tell; (try simp only [inN, rng, zj0_t, zj0_e, tlN, tlT]); (repeat' split) <;> first | (exfalso; omega) | contradiction | exact hC | exact CI_tr hC _ | exact CI_tr (CI_tr hC _) _ | exact CI_tr (CI_tr (CI_tr (CI_tr hC _) _) _) _)) d_AP_tell_22
  · refine kRV hc hw lk_AP_96 (As := [.int zp0]) (rest := []) (c_AP_personAt_n l D g _ pc (hPC.1) hpc6 zp0 zhq0) (rc_AP hw) ⟨Nat.le_of_ble_eq_true rfl, Nat.le_of_ble_eq_true rfl⟩ ⟨Nat.le_refl _, Nat.le_refl _⟩ rfl hl rfl (Nat.le_of_ble_eq_true rfl) d_AP_tell_2 ?_
    unfold inN at zhq0
    refine lv_astore_nN (lv' := [(2, .null), (0, .ref (wad g 0)), (1, .int zp0)]) hx hb d_AP_tell_5 rfl hl (by decide) rfl (fun ls hl => ?_)
    refine lv_aload_nN hx hb d_AP_tell_6 rfl (lv_at hl 0 rfl) ?_
    refine lv_ifnonnullN hx hb d_AP_tell_7 ?_
    refine lv_iconst (v := (-1)) hx hb d_AP_tell_10 (by decide) ?_
    refine lv_goto (tgt := 22) hx hb d_AP_tell_11 (by decide) ?_
    exact W_i hc hw hr hlocks (by refine ⟨congrArg (fun z => some (Value.int z)) ?_, rfl, ?_, (by repeat (first | exact FrO.rf _ _ _ | assumption | refine FrO.up ?_ (by decide) (by decide)))⟩; (unfold s_tell; (try simp only [inN, rng, tlN, tlT]); (repeat' split) <;> first | (exfalso; omega) | contradiction | rfl); (unfold s_tell; (try simp only [inN, rng, tlN, tlT]); (repeat' split) <;> first | (exfalso; omega) | contradiction | exact hC | exact CI_tr hC _ | exact CI_tr (CI_tr hC _) _ | exact CI_tr (CI_tr (CI_tr (CI_tr hC _) _) _) _)) d_AP_tell_22
set_option maxHeartbeats 4000000 in
theorem c_AP_greet (l : Launch) (D : va_G) (g : wG) (F : wF) (pc : Nat) (lf : Nat → Nat) (lw : Nat) (cn : Nat) (fr to hv dy : Nat → Nat) (an af : Nat → Option Nat) (ln : Nat → Option Nat) (sz : Nat → Nat) (ce : Nat → Nat → Int32) (tr ft : Int32) (hG : GI g (pc, lf) lw (cn, fr, to, hv, dy, an, af) (ln, sz, ce)) (hC : CI g F (pc, lf) lw (cn, fr, to, hv, dy, an, af) (ln, sz, ce) tr ft) (zp0 : Int32) : CW l y_AP_greet b_AP_greet 3 (Option.some Jvm.ClassFile.FieldType.int) 6 0 0 D g F [.ref (wad g 0), .int zp0] (fun v g2 u => v = some (.int (s_greet (wK g) (pc, lf) tr zp0).1) ∧ g = g2 ∧ CI g u (pc, lf) lw (cn, fr, to, hv, dy, an, af) (ln, sz, ce) (s_greet (wK g) (pc, lf) tr zp0).2 ft ∧ FrO 0 57 F u) := by
  refine CW.start rfl (Nat.le_of_ble_eq_true rfl) ?_
  intro p e s m args below meth c A ls hc hr hlocks hw hl
  have hl : lv_has ls 3 [(0, .ref (wad g 0)), (1, .int zp0)] := hl
  have hx := hc.1
  have hb := hc.2.1
  obtain ⟨hpc6, hpcm, hm6, hpc0, hper⟩ : PI g pc lf := hG.1
  have hlw : lw ≤ 2 := hG.2.1
  have hI : LI pc cn fr to hv dy an af := hG.2.2.1
  have hcn := hI.1
  have hSI : SI ln sz := hG.2.2.2
  have hPC : PC F pc lf := hC.1
  have hL : LC g F cn fr to hv dy an af := hC.2.2.1
  have hSC : SC F ln sz ce := hC.2.2.2.1
  refine lv_aload_n hx hb d_AP_greet_0 rfl (lv_at hl 0 rfl) ?_
  refine lv_iload_n hx hb d_AP_greet_1 rfl (lv_at hl 1 rfl) ?_
  by_cases zhq0 : inN zp0 pc
  · obtain ⟨zj0, rfl, zj0_1⟩ := inN_nat zhq0
    have zj0_e := nI_tI (j := zj0) (by omega)
    have zj0_t := tn_nI (j := zj0) (by omega)
    unfold inN at zhq0
    refine kRV hc hw lk_AP_96 (As := [.int (nI zj0)]) (rest := []) (c_AP_personAt_y l D g _ pc (hPC.1) hpcm hm6 (zj0) (zj0_1)) (rc_AP hw) ⟨Nat.le_of_ble_eq_true rfl, Nat.le_of_ble_eq_true rfl⟩ ⟨Nat.le_refl _, Nat.le_refl _⟩ rfl hl rfl (Nat.le_of_ble_eq_true rfl) d_AP_greet_2 ?_
    refine lv_astore_n (lv' := [(2, .ref (wad g (79 + zj0))), (0, .ref (wad g 0)), (1, .int (nI zj0))]) hx hb d_AP_greet_5 rfl hl (by decide) rfl (fun ls hl => ?_)
    refine lv_aload_n hx hb d_AP_greet_6 rfl (lv_at hl 0 rfl) ?_
    refine lv_ifnonnull (tgt := 14) hx hb d_AP_greet_7 (by decide) ?_
    refine lv_aload_n hx hb d_AP_greet_14 rfl (lv_at hl 0 rfl) ?_
    refine lv_aload_n hx hb d_AP_greet_15 rfl (lv_at hl 1 rfl) ?_
    refine gf_AP_55 hc hw d_AP_greet_16 ?_
    rcases (show wK g zj0 = 0 ∨ wK g zj0 = 1 ∨ wK g zj0 = 2 from by have := (hper zj0 (by omega)).1; omega) with hk0 | hk0 | hk0
    · refine kWU hc hw lu_AP_246_WR (h := 79 + zj0) (As := [.ref (wad g 57)]) (rest := []) (c_WR_greeting l D g _ zj0 (by omega) (hper zj0 (by omega)).1 (hPC.2 zj0 (by omega)).1 tr hC.2.2.2.2.1) (rc_WR hw (by omega) hk0) ⟨Nat.le_of_ble_eq_true rfl, Nat.le_of_ble_eq_true rfl⟩ ⟨Nat.le_refl _, Nat.le_refl _⟩ rfl hl rfl (Nat.le_of_ble_eq_true rfl) d_AP_greet_19 (fun v_1 g_2 F_3 H locs zhp_4 hw => ?_)
      obtain ⟨rfl, rfl, rfl⟩ := zhp_4
      exact W_i hc hw hr hlocks (by refine ⟨congrArg (fun z => some (Value.int z)) ?_, rfl, ?_, (by repeat (first | exact FrO.rf _ _ _ | assumption | refine FrO.up ?_ (by decide) (by decide)))⟩; (unfold s_greet; (try simp only [inN, rng, zj0_t, zj0_e, tlN, tlT]); (repeat' split) <;> first | (exfalso; omega) | contradiction | rfl); (unfold s_greet; (try simp only [inN, rng, zj0_t, zj0_e, tlN, tlT]); (repeat' split) <;> first | (exfalso; omega) | contradiction | exact hC | exact CI_tr hC _ | exact CI_tr (CI_tr hC _) _ | exact CI_tr (CI_tr (CI_tr (CI_tr hC _) _) _) _)) d_AP_greet_22
    · refine kWU hc hw lu_AP_246_MI (h := 79 + zj0) (As := [.ref (wad g 57)]) (rest := []) (c_WR_greeting l D g _ zj0 (by omega) (hper zj0 (by omega)).1 (hPC.2 zj0 (by omega)).1 tr hC.2.2.2.2.1) (rc_MI hw (by omega) hk0) ⟨Nat.le_of_ble_eq_true rfl, Nat.le_of_ble_eq_true rfl⟩ ⟨Nat.le_refl _, Nat.le_refl _⟩ rfl hl rfl (Nat.le_of_ble_eq_true rfl) d_AP_greet_19 (fun v_5 g_6 F_7 H locs zhp_8 hw => ?_)
      obtain ⟨rfl, rfl, rfl⟩ := zhp_8
      exact W_i hc hw hr hlocks (by refine ⟨congrArg (fun z => some (Value.int z)) ?_, rfl, ?_, (by repeat (first | exact FrO.rf _ _ _ | assumption | refine FrO.up ?_ (by decide) (by decide)))⟩; (unfold s_greet; (try simp only [inN, rng, zj0_t, zj0_e, tlN, tlT]); (repeat' split) <;> first | (exfalso; omega) | contradiction | rfl); (unfold s_greet; (try simp only [inN, rng, zj0_t, zj0_e, tlN, tlT]); (repeat' split) <;> first | (exfalso; omega) | contradiction | exact hC | exact CI_tr hC _ | exact CI_tr (CI_tr hC _) _ | exact CI_tr (CI_tr (CI_tr (CI_tr hC _) _) _) _)) d_AP_greet_22
    · refine kWU hc hw lu_AP_246_LA (h := 79 + zj0) (As := [.ref (wad g 57)]) (rest := []) (c_LA_greeting l D g _ zj0 (by omega) (hper zj0 (by omega)).1 tr hC.2.2.2.2.1) (rc_LA hw (by omega) hk0) ⟨Nat.le_of_ble_eq_true rfl, Nat.le_of_ble_eq_true rfl⟩ ⟨Nat.le_refl _, Nat.le_refl _⟩ rfl hl rfl (Nat.le_of_ble_eq_true rfl) d_AP_greet_19 (fun v_9 g_10 F_11 H locs zhp_12 hw => ?_)
      obtain ⟨rfl, rfl, rfl⟩ := zhp_12
      exact W_i hc hw hr hlocks (by refine ⟨congrArg (fun z => some (Value.int z)) ?_, rfl, ?_, (by repeat (first | exact FrO.rf _ _ _ | assumption | refine FrO.up ?_ (by decide) (by decide)))⟩; (unfold s_greet; (try simp only [inN, rng, zj0_t, zj0_e, tlN, tlT]); (repeat' split) <;> first | (exfalso; omega) | contradiction | rfl); (unfold s_greet; (try simp only [inN, rng, zj0_t, zj0_e, tlN, tlT]); (repeat' split) <;> first | (exfalso; omega) | contradiction | exact hC | exact CI_tr hC _ | exact CI_tr (CI_tr hC _) _ | exact CI_tr (CI_tr (CI_tr (CI_tr hC _) _) _) _)) d_AP_greet_22
  · refine kRV hc hw lk_AP_96 (As := [.int zp0]) (rest := []) (c_AP_personAt_n l D g _ pc (hPC.1) hpc6 zp0 zhq0) (rc_AP hw) ⟨Nat.le_of_ble_eq_true rfl, Nat.le_of_ble_eq_true rfl⟩ ⟨Nat.le_refl _, Nat.le_refl _⟩ rfl hl rfl (Nat.le_of_ble_eq_true rfl) d_AP_greet_2 ?_
    unfold inN at zhq0
    refine lv_astore_nN (lv' := [(2, .null), (0, .ref (wad g 0)), (1, .int zp0)]) hx hb d_AP_greet_5 rfl hl (by decide) rfl (fun ls hl => ?_)
    refine lv_aload_nN hx hb d_AP_greet_6 rfl (lv_at hl 0 rfl) ?_
    refine lv_ifnonnullN hx hb d_AP_greet_7 ?_
    refine lv_iconst (v := (-1)) hx hb d_AP_greet_10 (by decide) ?_
    refine lv_goto (tgt := 22) hx hb d_AP_greet_11 (by decide) ?_
    exact W_i hc hw hr hlocks (by refine ⟨congrArg (fun z => some (Value.int z)) ?_, rfl, ?_, (by repeat (first | exact FrO.rf _ _ _ | assumption | refine FrO.up ?_ (by decide) (by decide)))⟩; (unfold s_greet; (try simp only [inN, rng, tlN, tlT]); (repeat' split) <;> first | (exfalso; omega) | contradiction | rfl); (unfold s_greet; (try simp only [inN, rng, tlN, tlT]); (repeat' split) <;> first | (exfalso; omega) | contradiction | exact hC | exact CI_tr hC _ | exact CI_tr (CI_tr hC _) _ | exact CI_tr (CI_tr (CI_tr (CI_tr hC _) _) _) _)) d_AP_greet_22
set_option maxHeartbeats 4000000 in
theorem c_AP_isOfKind (l : Launch) (D : va_G) (g : wG) (F : wF) (j : Nat) (hj : j < wm g) (h2 : wK g j ≤ 2) (k : Nat) (hk : k ≤ 2) : CR l y_AP_isOfKind b_AP_isOfKind 2 (Option.some Jvm.ClassFile.FieldType.boolean) 0 D g F [.ref (wad g (79 + j)), .int (nI k)] (.int (bI (k ≤ wK g j))) := by
  refine CR.start rfl (Nat.le_of_ble_eq_true rfl) ?_
  intro p e s m args below meth c A ls hc hr hlocks hw hl
  have hl : lv_has ls 2 [(0, .ref (wad g (79 + j))), (1, .int (nI k))] := hl
  have hx := hc.1
  have hb := hc.2.1
  refine lv_iload_n hx hb d_AP_isOfKind_0 rfl (lv_at hl 1 rfl) ?_
  by_cases c_1 : k = 0
  · refine lv_lookup (tgt := 28) hx hb d_AP_isOfKind_1 (by decide) (by rw [show (nI k).toInt = 0 from by rw [c_1] <;> rfl] <;> rfl) (by decide) ?_
    refine lv_iconst (v := nI 1) hx hb d_AP_isOfKind_28 (by decide) ?_
    exact R_z hc hr hlocks (by rw [bI_t (show _ from by omega)]; rfl) rfl d_AP_isOfKind_29
  by_cases c_2 : k = 1
  · refine lv_lookup (tgt := 30) hx hb d_AP_isOfKind_1 (by decide) (by rw [show (nI k).toInt = 1 from by rw [c_2] <;> rfl] <;> rfl) (by decide) ?_
    refine lv_aload_n hx hb d_AP_isOfKind_30 rfl (lv_at hl 0 rfl) ?_
    refine io_256 hc hw (j := j) hj h2 d_AP_isOfKind_31 ?_
    exact R_z hc hr hlocks (by subst_vars; rfl) (bI_nar _) d_AP_isOfKind_34
  refine lv_lookup (tgt := 35) hx hb d_AP_isOfKind_1 (by decide) ((lv_osw (k := nI 0) (fun q => c_1 ((nI_eq (a := k) (b := 0) (by omega) (by decide)).mp q)) (by decide)).trans ((lv_osw (k := nI 1) (fun q => c_2 ((nI_eq (a := k) (b := 1) (by omega) (by decide)).mp q)) (by decide)).trans rfl)) rfl ?_
  refine lv_aload_n hx hb d_AP_isOfKind_35 rfl (lv_at hl 0 rfl) ?_
  refine io_258 hc hw (j := j) hj h2 d_AP_isOfKind_36 ?_
  exact R_z hc hr hlocks (by rw [show k = 2 by omega]) (bI_nar _) d_AP_isOfKind_39
set_option maxHeartbeats 4000000 in
theorem c_AP_as (l : Launch) (D : va_G) (g : wG) (F : wF) (pc : Nat) (lf : Nat → Nat) (lw : Nat) (cn : Nat) (fr to hv dy : Nat → Nat) (an af : Nat → Option Nat) (ln : Nat → Option Nat) (sz : Nat → Nat) (ce : Nat → Nat → Int32) (tr ft : Int32) (hG : GI g (pc, lf) lw (cn, fr, to, hv, dy, an, af) (ln, sz, ce)) (hC : CI g F (pc, lf) lw (cn, fr, to, hv, dy, an, af) (ln, sz, ce) tr ft) (zp0 zp1 : Int32) : CW l y_AP_as b_AP_as 4 (Option.some Jvm.ClassFile.FieldType.int) 3 0 0 D g F [.ref (wad g 0), .int zp0, .int zp1] (fun v g2 u => v = some (.int (s_as (wK g) (pc, lf) zp0 zp1).1) ∧ g = g2 ∧ CI g u (pc, lf) lw (cn, fr, to, hv, dy, an, af) (ln, sz, ce) tr (s_as (wK g) (pc, lf) zp0 zp1).2 ∧ FrO 0 57 F u) := by
  refine CW.start rfl (Nat.le_of_ble_eq_true rfl) ?_
  intro p e s m args below meth c A ls hc hr hlocks hw hl
  have hl : lv_has ls 4 [(0, .ref (wad g 0)), (1, .int zp0), (2, .int zp1)] := hl
  have hx := hc.1
  have hb := hc.2.1
  obtain ⟨hpc6, hpcm, hm6, hpc0, hper⟩ : PI g pc lf := hG.1
  have hlw : lw ≤ 2 := hG.2.1
  have hI : LI pc cn fr to hv dy an af := hG.2.2.1
  have hcn := hI.1
  have hSI : SI ln sz := hG.2.2.2
  have hPC : PC F pc lf := hC.1
  have hL : LC g F cn fr to hv dy an af := hC.2.2.1
  have hSC : SC F ln sz ce := hC.2.2.2.1
  refine lv_aload_n hx hb d_AP_as_0 rfl (lv_at hl 0 rfl) ?_
  refine lv_iconst (v := nI 0) hx hb d_AP_as_1 (by decide) ?_
  refine pf_AP_59 hc hw d_AP_as_2 (fun H locs hw => ?_)
  refine lv_aload_n hx hb d_AP_as_5 rfl (lv_at hl 0 rfl) ?_
  refine lv_iload_n hx hb d_AP_as_6 rfl (lv_at hl 1 rfl) ?_
  by_cases zhq0 : inN zp0 pc
  · obtain ⟨zj0, rfl, zj0_1⟩ := inN_nat zhq0
    have zj0_e := nI_tI (j := zj0) (by omega)
    have zj0_t := tn_nI (j := zj0) (by omega)
    unfold inN at zhq0
    refine kRV hc hw lk_AP_96 (As := [.int (nI zj0)]) (rest := []) (c_AP_personAt_y l D g _ pc ((u2_i (by decide)).trans (hPC.1)) hpcm hm6 (zj0) (zj0_1)) (rc_AP hw) ⟨Nat.le_of_ble_eq_true rfl, Nat.le_of_ble_eq_true rfl⟩ ⟨Nat.le_refl _, Nat.le_refl _⟩ rfl hl rfl (Nat.le_of_ble_eq_true rfl) d_AP_as_7 ?_
    refine lv_astore_n (lv' := [(3, .ref (wad g (79 + zj0))), (0, .ref (wad g 0)), (1, .int (nI zj0)), (2, .int zp1)]) hx hb d_AP_as_10 rfl hl (by decide) rfl (fun ls hl => ?_)
    refine lv_aload_n hx hb d_AP_as_11 rfl (lv_at hl 0 rfl) ?_
    refine lv_ifnonnull (tgt := 17) hx hb d_AP_as_12 (by decide) ?_
    refine lv_iload_n hx hb d_AP_as_17 rfl (lv_at hl 3 rfl) ?_
    refine lv_iconst (v := nI 0) hx hb d_AP_as_18 (by decide) ?_
    refine lv_iconst (v := nI 2) hx hb d_AP_as_19 (by decide) ?_
    refine kRS hc hw lk_AP_67 (As := [.int zp1, .int (nI 0), .int (nI 2)]) (rest := []) (c_AP_isWithin l D g _ (zp1) (nI 0) (nI 2) 0 2 (by decide) (by decide)) ⟨Nat.le_of_ble_eq_true rfl, Nat.le_of_ble_eq_true rfl⟩ ⟨Nat.le_refl _, Nat.le_refl _⟩ rfl hl rfl (Nat.le_of_ble_eq_true rfl) d_AP_as_20 ?_
    refine b_if_ne (tgt := 29) hc d_AP_as_23 (by decide) (fun c_1 => ?_) (fun c_1 => ?_)
    · obtain ⟨zj1, rfl, zj1_1, zj1_2⟩ := rng_nat c_1 (by decide)
      have zj1_e := nI_tI (j := zj1) (by omega)
      have zj1_t := tn_nI (j := zj1) (by omega)
      try unfold rng at c_1
      refine lv_aload_n hx hb d_AP_as_29 rfl (lv_at hl 0 rfl) ?_
      refine lv_iload_n hx hb d_AP_as_30 rfl (lv_at hl 3 rfl) ?_
      refine kRS hc hw lk_AP_249 (As := [.ref (wad g (79 + zj0)), .int (nI zj1)]) (rest := []) (c_AP_isOfKind l D g _ zj0 (by omega) (hper zj0 (by omega)).1 zj1 (by omega)) ⟨Nat.le_of_ble_eq_true rfl, Nat.le_of_ble_eq_true rfl⟩ ⟨Nat.le_refl _, Nat.le_refl _⟩ rfl hl rfl (Nat.le_of_ble_eq_true rfl) d_AP_as_31 ?_
      refine b_if_eq (tgt := 41) hc d_AP_as_34 (by decide) (fun c_2 => ?_) (fun c_2 => ?_)
      · refine lv_aload_n hx hb d_AP_as_41 rfl (lv_at hl 1 rfl) ?_
        refine lv_iconst (v := nI 2) hx hb d_AP_as_42 (by decide) ?_
        refine kWV hc hw lk_AP_75 (h := 0) (As := [.int (nI 2)]) (rest := []) (c_AP_faulted l D g _ 2) (rc_AP hw) ⟨Nat.le_of_ble_eq_true rfl, Nat.le_of_ble_eq_true rfl⟩ ⟨Nat.le_refl _, Nat.le_refl _⟩ rfl hl rfl (Nat.le_of_ble_eq_true rfl) d_AP_as_43 (fun v_3 g_4 F_5 H locs zhp_6 hw => ?_)
        obtain ⟨rfl, rfl, rfl⟩ := zhp_6
        exact W_i hc hw hr hlocks (by refine ⟨congrArg (fun z => some (Value.int z)) ?_, rfl, ?_, (by repeat (first | exact FrO.rf _ _ _ | assumption | refine FrO.up ?_ (by decide) (by decide)))⟩; (unfold s_as; (try simp only [inN, rng, zj0_t, zj0_e, zj1_t, zj1_e]); (repeat' split) <;> first | (exfalso; omega) | contradiction | rfl); (unfold s_as; (try simp only [inN, rng, zj0_t, zj0_e, zj1_t, zj1_e]); (repeat' split) <;> first | (exfalso; omega) | contradiction | exact CI_ft hC _ | exact CI_ft (CI_ft hC _) _)) d_AP_as_46
      · refine lv_iconst (v := nI 1) hx hb d_AP_as_37 (by decide) ?_
        refine lv_goto (tgt := 46) hx hb d_AP_as_38 (by decide) ?_
        exact W_i hc hw hr hlocks (by refine ⟨congrArg (fun z => some (Value.int z)) ?_, rfl, ?_, (by repeat (first | exact FrO.rf _ _ _ | assumption | refine FrO.up ?_ (by decide) (by decide)))⟩; (unfold s_as; (try simp only [inN, rng, zj0_t, zj0_e, zj1_t, zj1_e]); (repeat' split) <;> first | (exfalso; omega) | contradiction | rfl); (unfold s_as; (try simp only [inN, rng, zj0_t, zj0_e, zj1_t, zj1_e]); (repeat' split) <;> first | (exfalso; omega) | contradiction | exact CI_ft hC _ | exact CI_ft (CI_ft hC _) _)) d_AP_as_46
    · try unfold rng at c_1
      refine lv_bipush (v := (-2)) hx hb d_AP_as_26 (by decide) ?_
      exact W_i hc hw hr hlocks (by refine ⟨congrArg (fun z => some (Value.int z)) ?_, rfl, ?_, (by repeat (first | exact FrO.rf _ _ _ | assumption | refine FrO.up ?_ (by decide) (by decide)))⟩; (unfold s_as; (try simp only [inN, rng, zj0_t, zj0_e]); (repeat' split) <;> first | (exfalso; omega) | contradiction | rfl); (unfold s_as; (try simp only [inN, rng, zj0_t, zj0_e]); (repeat' split) <;> first | (exfalso; omega) | contradiction | exact CI_ft hC _ | exact CI_ft (CI_ft hC _) _)) d_AP_as_28
  · refine kRV hc hw lk_AP_96 (As := [.int zp0]) (rest := []) (c_AP_personAt_n l D g _ pc ((u2_i (by decide)).trans (hPC.1)) hpc6 zp0 zhq0) (rc_AP hw) ⟨Nat.le_of_ble_eq_true rfl, Nat.le_of_ble_eq_true rfl⟩ ⟨Nat.le_refl _, Nat.le_refl _⟩ rfl hl rfl (Nat.le_of_ble_eq_true rfl) d_AP_as_7 ?_
    unfold inN at zhq0
    refine lv_astore_nN (lv' := [(3, .null), (0, .ref (wad g 0)), (1, .int zp0), (2, .int zp1)]) hx hb d_AP_as_10 rfl hl (by decide) rfl (fun ls hl => ?_)
    refine lv_aload_nN hx hb d_AP_as_11 rfl (lv_at hl 0 rfl) ?_
    refine lv_ifnonnullN hx hb d_AP_as_12 ?_
    refine lv_iconst (v := (-1)) hx hb d_AP_as_15 (by decide) ?_
    exact W_i hc hw hr hlocks (by refine ⟨congrArg (fun z => some (Value.int z)) ?_, rfl, ?_, (by repeat (first | exact FrO.rf _ _ _ | assumption | refine FrO.up ?_ (by decide) (by decide)))⟩; (unfold s_as; (try simp only [inN, rng]); (repeat' split) <;> first | (exfalso; omega) | contradiction | rfl); (unfold s_as; (try simp only [inN, rng]); (repeat' split) <;> first | (exfalso; omega) | contradiction | exact CI_ft hC _ | exact CI_ft (CI_ft hC _) _)) d_AP_as_16
set_option maxHeartbeats 4000000 in
theorem c_AP_best (l : Launch) (D : va_G) (g : wG) (F : wF) (pc : Nat) (lf : Nat → Nat) (lw : Nat) (cn : Nat) (fr to hv dy : Nat → Nat) (an af : Nat → Option Nat) (ln : Nat → Option Nat) (sz : Nat → Nat) (ce : Nat → Nat → Int32) (tr ft : Int32) (hG : GI g (pc, lf) lw (cn, fr, to, hv, dy, an, af) (ln, sz, ce)) (hC : CI g F (pc, lf) lw (cn, fr, to, hv, dy, an, af) (ln, sz, ce) tr ft) (zp0 zp1 zp2 : Int32) : CR l y_AP_best b_AP_best 9 (Option.some Jvm.ClassFile.FieldType.int) 3 D g F [.ref (wad g 0), .int zp0, .int zp1, .int zp2] (.int (s_best (wK g) (pc, lf) lw zp0 zp1 zp2)) := by
  refine CR.start rfl (Nat.le_of_ble_eq_true rfl) ?_
  intro p e s m args below meth c A ls hc hr hlocks hw hl
  have hl : lv_has ls 9 [(0, .ref (wad g 0)), (1, .int zp0), (2, .int zp1), (3, .int zp2)] := hl
  have hx := hc.1
  have hb := hc.2.1
  obtain ⟨hpc6, hpcm, hm6, hpc0, hper⟩ : PI g pc lf := hG.1
  have hlw : lw ≤ 2 := hG.2.1
  have hI : LI pc cn fr to hv dy an af := hG.2.2.1
  have hcn := hI.1
  have hSI : SI ln sz := hG.2.2.2
  have hPC : PC F pc lf := hC.1
  have hL : LC g F cn fr to hv dy an af := hC.2.2.1
  have hSC : SC F ln sz ce := hC.2.2.2.1
  refine lv_aload_n hx hb d_AP_best_0 rfl (lv_at hl 0 rfl) ?_
  refine lv_iload_n hx hb d_AP_best_1 rfl (lv_at hl 1 rfl) ?_
  by_cases zhq0 : inN zp0 pc
  · obtain ⟨zj0, rfl, zj0_1⟩ := inN_nat zhq0
    have zj0_e := nI_tI (j := zj0) (by omega)
    have zj0_t := tn_nI (j := zj0) (by omega)
    unfold inN at zhq0
    refine kRV hc hw lk_AP_96 (As := [.int (nI zj0)]) (rest := []) (c_AP_personAt_y l D g _ pc (hPC.1) hpcm hm6 (zj0) (zj0_1)) (rc_AP hw) ⟨Nat.le_of_ble_eq_true rfl, Nat.le_of_ble_eq_true rfl⟩ ⟨Nat.le_refl _, Nat.le_refl _⟩ rfl hl rfl (Nat.le_of_ble_eq_true rfl) d_AP_best_2 ?_
    refine lv_astore (lv' := [(4, .ref (wad g (79 + zj0))), (0, .ref (wad g 0)), (1, .int (nI zj0)), (2, .int zp1), (3, .int zp2)]) hx hb d_AP_best_5 hl (by decide) rfl (fun ls hl => ?_)
    refine lv_aload hx hb d_AP_best_7 (lv_at hl 0 rfl) ?_
    refine lv_ifnonnull (tgt := 14) hx hb d_AP_best_9 (by decide) ?_
    refine lv_iload_n hx hb d_AP_best_14 rfl (lv_at hl 3 rfl) ?_
    refine lv_iconst (v := nI 1) hx hb d_AP_best_15 (by decide) ?_
    refine lv_sipush (v := nI 200) hx hb d_AP_best_16 (by decide) ?_
    refine kRS hc hw lk_AP_67 (As := [.int zp1, .int (nI 1), .int (nI 200)]) (rest := []) (c_AP_isWithin l D g _ (zp1) (nI 1) (nI 200) 1 200 (by decide) (by decide)) ⟨Nat.le_of_ble_eq_true rfl, Nat.le_of_ble_eq_true rfl⟩ ⟨Nat.le_refl _, Nat.le_refl _⟩ rfl hl rfl (Nat.le_of_ble_eq_true rfl) d_AP_best_19 ?_
    refine b_if_eq (tgt := 34) hc d_AP_best_22 (by decide) (fun c_1 => ?_) (fun c_1 => ?_)
    · try unfold rng at c_1
      refine lv_bipush (v := (-2)) hx hb d_AP_best_34 (by decide) ?_
      exact R_i hc hr hlocks (by refine congrArg Value.int ?_; unfold s_best; simp only [inN, rng, zj0_t, zj0_e]; (repeat' split) <;> first | (exfalso; omega) | rfl) d_AP_best_36
    · obtain ⟨zj1, rfl, zj1_1, zj1_2⟩ := rng_nat c_1 (by decide)
      have zj1_e := nI_tI (j := zj1) (by omega)
      have zj1_t := tn_nI (j := zj1) (by omega)
      try unfold rng at c_1
      refine lv_iload_n hx hb d_AP_best_25 rfl (lv_at hl 4 rfl) ?_
      refine lv_iconst (v := nI 0) hx hb d_AP_best_26 (by decide) ?_
      refine lv_iconst (v := nI 1) hx hb d_AP_best_27 (by decide) ?_
      refine kRS hc hw lk_AP_67 (As := [.int zp2, .int (nI 0), .int (nI 1)]) (rest := []) (c_AP_isWithin l D g _ (zp2) (nI 0) (nI 1) 0 1 (by decide) (by decide)) ⟨Nat.le_of_ble_eq_true rfl, Nat.le_of_ble_eq_true rfl⟩ ⟨Nat.le_refl _, Nat.le_refl _⟩ rfl hl rfl (Nat.le_of_ble_eq_true rfl) d_AP_best_28 ?_
      refine b_if_ne (tgt := 37) hc d_AP_best_31 (by decide) (fun c_2 => ?_) (fun c_2 => ?_)
      · obtain ⟨zj2, rfl, zj2_1, zj2_2⟩ := rng_nat c_2 (by decide)
        have zj2_e := nI_tI (j := zj2) (by omega)
        have zj2_t := tn_nI (j := zj2) (by omega)
        try unfold rng at c_2
        obtain ⟨hj0a, hj0b, hj0c⟩ := hper zj0 zj0_1
        have zhs1 := shw_le (k := wK g zj0) (w := 1) (by decide)
        refine lv_iconst (v := nI 1) hx hb d_AP_best_37 (by decide) ?_
        refine lv_istore (lv' := [(5, .int (nI 1)), (4, .ref (wad g (79 + zj0))), (0, .ref (wad g 0)), (1, .int (nI zj0)), (2, .int (nI zj1)), (3, .int (nI zj2))]) hx hb d_AP_best_38 hl (by decide) rfl (fun ls hl => ?_)
        refine lv_aload_n hx hb d_AP_best_40 rfl (lv_at hl 2 rfl) ?_
        refine gf_AP_110 hc hw d_AP_best_41 (v := .int (nI lw)) (congrArg Value.int (hC.2.1)) ?_
        refine lv_aload hx hb d_AP_best_44 (lv_at hl 1 rfl) ?_
        refine lv_iconst (v := nI 1) hx hb d_AP_best_46 (by decide) ?_
        refine vs_AP_107 hc hw (j := zj0) (by omega) ((hper zj0 (zj0_1)).1) (w := 1) (by omega) ⟨Nat.le_of_ble_eq_true rfl, Nat.le_of_ble_eq_true rfl⟩ ⟨Nat.le_refl _, Nat.le_refl _⟩ hl (Nat.le_of_ble_eq_true rfl) d_AP_best_47 ?_
        refine lv_iload_n hx hb d_AP_best_50 rfl (lv_at hl 4 rfl) ?_
        refine kRS hc hw lk_AP_183 (As := [.int (nI lw), .int (nI (shw (wK g zj0) 1)), .int (nI zj1)]) (rest := []) (c_AP_pays l D g _ (lw) (shw (wK g zj0) 1) (zj1) (by omega) (by omega) (by omega)) ⟨Nat.le_of_ble_eq_true rfl, Nat.le_of_ble_eq_true rfl⟩ ⟨Nat.le_refl _, Nat.le_refl _⟩ rfl hl rfl (Nat.le_of_ble_eq_true rfl) d_AP_best_51 ?_
        refine lv_istore (lv' := [(6, .int (nI (pys lw (shw (wK g zj0) 1) zj1))), (5, .int (nI 1)), (4, .ref (wad g (79 + zj0))), (0, .ref (wad g 0)), (1, .int (nI zj0)), (2, .int (nI zj1)), (3, .int (nI zj2))]) hx hb d_AP_best_54 hl (by decide) rfl (fun ls hl => ?_)
        refine lv_iconst (v := nI 2) hx hb d_AP_best_56 (by decide) ?_
        refine lv_istore (lv' := [(7, .int (nI 2)), (6, .int (nI (pys lw (shw (wK g zj0) 1) zj1))), (5, .int (nI 1)), (4, .ref (wad g (79 + zj0))), (0, .ref (wad g 0)), (1, .int (nI zj0)), (2, .int (nI zj1)), (3, .int (nI zj2))]) hx hb d_AP_best_57 hl (by decide) rfl (fun ls hl => ?_)
        have loop_59 : ∀ (n_59 : Nat) (i : Nat)  (ls : Array Slot), (lf zj0 - i) < n_59 → (i + 1 ≤ lf zj0) → Wd D g F A s.heap s.heap [] s → lv_has ls 9 [(0, .ref (wad g 0)), (1, .int (nI zj0)), (2, .int (nI zj1)), (3, .int (nI zj2)), (4, .ref (wad g (79 + zj0))), (5, .int (nI ((bsN (fun v => pys lw (shw (wK g zj0) v) zj1) i).1))), (6, .int (nI ((bsN (fun v => pys lw (shw (wK g zj0) v) zj1) i).2))), (7, .int (nI (i + 2)))] → W p l e (rmc 3 0 0) s m args below meth c s.heap [] 0 0 (MQ below (k2_QcV (.int (s_best (wK g) (pc, lf) lw (nI zj0) (nI zj1) (nI zj2)))) args s 0 0 (fun _ => False)) (F0 m 59 ls []) := by
          intro n_59
          induction n_59 with
          | zero => intro i  ls hm; exact absurd hm (Nat.not_lt_zero _)
          | succ n_59 ih_59 =>
            intro i  ls hm_59 hi hw hl
            obtain ⟨hb1, hb2, hb3, hb4⟩ := bsN_le (q := (fun v => pys lw (shw (wK g zj0) v) zj1)) (B := 400) i (fun v hv => by have h1 := pys_le lw (shw (wK g zj0) v) zj1; have h2 := shw_le (k := wK g zj0) (w := v) (by omega); show pys lw (shw (wK g zj0) v) zj1 ≤ 400; omega)
            have zhq2 := pys_le lw (shw (wK g zj0) (i + 2)) zj1
            refine lv_iload hx hb d_AP_best_59 (lv_at hl 7 rfl) ?_
            refine lv_aload hx hb d_AP_best_61 (lv_at hl 4 rfl) ?_
            refine gf_AP_104 hc hw (k := zj0) (by omega) ((hper zj0 (zj0_1)).1) d_AP_best_63 (v := .int (nI (lf zj0))) (congrArg Value.int ((hPC.2 zj0 (by omega)).2)) ?_
            refine q_icmp_gt (tgt := 107) hc (by omega) (by omega) d_AP_best_66 (by decide) (fun c_3 => ?_) (fun c_3 => ?_)
            · have hil : i = lf zj0 - 1 := by omega
              subst hil
              refine lv_iload_n hx hb d_AP_best_107 rfl (lv_at hl 3 rfl) ?_
              refine q_if_ne (tgt := 116) hc (by omega) d_AP_best_108 (by decide) (fun c_4 => ?_) (fun c_4 => ?_)
              · refine lv_iload hx hb d_AP_best_116 (lv_at hl 6 rfl) ?_
                exact R_i hc hr hlocks (by refine congrArg Value.int ?_; unfold s_best; simp only [inN, rng, zj0_t, zj0_e, zj1_t, zj1_e, zj2_t, zj2_e]; (repeat' split) <;> first | (exfalso; omega) | rfl) d_AP_best_118
              · refine lv_iload hx hb d_AP_best_111 (lv_at hl 5 rfl) ?_
                refine lv_goto (tgt := 118) hx hb d_AP_best_113 (by decide) ?_
                exact R_i hc hr hlocks (by refine congrArg Value.int ?_; unfold s_best; simp only [inN, rng, zj0_t, zj0_e, zj1_t, zj1_e, zj2_t, zj2_e]; (repeat' split) <;> first | (exfalso; omega) | rfl) d_AP_best_118
            · refine lv_aload_n hx hb d_AP_best_69 rfl (lv_at hl 0 rfl) ?_
              refine gf_AP_110 hc hw d_AP_best_70 (v := .int (nI lw)) (congrArg Value.int (hC.2.1)) ?_
              refine lv_aload hx hb d_AP_best_73 (lv_at hl 4 rfl) ?_
              refine lv_iload hx hb d_AP_best_75 (lv_at hl 7 rfl) ?_
              refine vs_AP_107 hc hw (j := zj0) (by omega) ((hper zj0 (zj0_1)).1) (w := i + 2) (by omega) ⟨Nat.le_of_ble_eq_true rfl, Nat.le_of_ble_eq_true rfl⟩ ⟨Nat.le_refl _, Nat.le_refl _⟩ hl (Nat.le_of_ble_eq_true rfl) d_AP_best_77 ?_
              have zhs2 := shw_le (k := wK g zj0) (w := i + 2) (by omega)
              refine lv_iload_n hx hb d_AP_best_80 rfl (lv_at hl 2 rfl) ?_
              refine kRS hc hw lk_AP_183 (As := [.int (nI lw), .int (nI (shw (wK g zj0) (i + 2))), .int (nI zj1)]) (rest := []) (c_AP_pays l D g _ (lw) (shw (wK g zj0) (i + 2)) (zj1) (by omega) (by omega) (by omega)) ⟨Nat.le_of_ble_eq_true rfl, Nat.le_of_ble_eq_true rfl⟩ ⟨Nat.le_refl _, Nat.le_refl _⟩ rfl hl rfl (Nat.le_of_ble_eq_true rfl) d_AP_best_81 ?_
              refine lv_istore (lv' := [(8, .int (nI (pys lw (shw (wK g zj0) (i + 2)) zj1))), (0, .ref (wad g 0)), (1, .int (nI zj0)), (2, .int (nI zj1)), (3, .int (nI zj2)), (4, .ref (wad g (79 + zj0))), (5, .int (nI ((bsN (fun v => pys lw (shw (wK g zj0) v) zj1) i).1))), (6, .int (nI ((bsN (fun v => pys lw (shw (wK g zj0) v) zj1) i).2))), (7, .int (nI (i + 2)))]) hx hb d_AP_best_84 hl (by decide) rfl (fun ls hl => ?_)
              refine lv_iload hx hb d_AP_best_86 (lv_at hl 0 rfl) ?_
              refine lv_iload hx hb d_AP_best_88 (lv_at hl 7 rfl) ?_
              refine q_icmp_ge (tgt := 101) hc (by omega) (by omega) d_AP_best_90 (by decide) (fun c_5 => ?_) (fun c_5 => ?_)
              · refine lv_iinc (v := nI ((i + 2) + 1)) (lv' := [(7, .int (nI ((i + 2) + 1))), (8, .int (nI (pys lw (shw (wK g zj0) (i + 2)) zj1))), (0, .ref (wad g 0)), (1, .int (nI zj0)), (2, .int (nI zj1)), (3, .int (nI zj2)), (4, .ref (wad g (79 + zj0))), (5, .int (nI ((bsN (fun v => pys lw (shw (wK g zj0) v) zj1) i).1))), (6, .int (nI ((bsN (fun v => pys lw (shw (wK g zj0) v) zj1) i).2)))]) hx hb d_AP_best_101 hl (k := 8) rfl (nI_inc1 _) (by decide) rfl (fun ls hl => ?_)
                refine lv_goto (tgt := 59) hx hb d_AP_best_104 (by decide) ?_
                have hl : lv_has ls 9 [(7, .int (nI ((i + 2) + 1))), (8, .int (nI (pys lw (shw (wK g zj0) (i + 2)) zj1))), (0, .ref (wad g 0)), (1, .int (nI zj0)), (2, .int (nI zj1)), (3, .int (nI zj2)), (4, .ref (wad g (79 + zj0))), (5, .int (nI ((bsN (fun v => pys lw (shw (wK g zj0) v) zj1) (i + 1)).1))), (6, .int (nI ((bsN (fun v => pys lw (shw (wK g zj0) v) zj1) i).2)))] := by rw [show (bsN (fun v => pys lw (shw (wK g zj0) v) zj1) (i + 1)).1 = (bsN (fun v => pys lw (shw (wK g zj0) v) zj1) i).1 from by (show (if (fun v => pys lw (shw (wK g zj0) v) zj1) (i + 2) < (bsN (fun v => pys lw (shw (wK g zj0) v) zj1) i).2 then (i + 2, (fun v => pys lw (shw (wK g zj0) v) zj1) (i + 2)) else bsN (fun v => pys lw (shw (wK g zj0) v) zj1) i).1 = _; first | rw [if_pos (by assumption)] | rw [if_neg (by show ¬ (pys lw (shw (wK g zj0) (i + 2)) zj1 < _); omega)])]; exact hl
                have hl : lv_has ls 9 [(7, .int (nI ((i + 2) + 1))), (8, .int (nI (pys lw (shw (wK g zj0) (i + 2)) zj1))), (0, .ref (wad g 0)), (1, .int (nI zj0)), (2, .int (nI zj1)), (3, .int (nI zj2)), (4, .ref (wad g (79 + zj0))), (5, .int (nI ((bsN (fun v => pys lw (shw (wK g zj0) v) zj1) (i + 1)).1))), (6, .int (nI ((bsN (fun v => pys lw (shw (wK g zj0) v) zj1) (i + 1)).2)))] := by rw [show (bsN (fun v => pys lw (shw (wK g zj0) v) zj1) (i + 1)).2 = (bsN (fun v => pys lw (shw (wK g zj0) v) zj1) i).2 from by (show (if (fun v => pys lw (shw (wK g zj0) v) zj1) (i + 2) < (bsN (fun v => pys lw (shw (wK g zj0) v) zj1) i).2 then (i + 2, (fun v => pys lw (shw (wK g zj0) v) zj1) (i + 2)) else bsN (fun v => pys lw (shw (wK g zj0) v) zj1) i).2 = _; first | rw [if_pos (by assumption)] | rw [if_neg (by show ¬ (pys lw (shw (wK g zj0) (i + 2)) zj1 < _); omega)])]; exact hl
                have hl : lv_has ls 9 [(7, .int (nI (i + 1 + 2))), (8, .int (nI (pys lw (shw (wK g zj0) (i + 2)) zj1))), (0, .ref (wad g 0)), (1, .int (nI zj0)), (2, .int (nI zj1)), (3, .int (nI zj2)), (4, .ref (wad g (79 + zj0))), (5, .int (nI ((bsN (fun v => pys lw (shw (wK g zj0) v) zj1) (i + 1)).1))), (6, .int (nI ((bsN (fun v => pys lw (shw (wK g zj0) v) zj1) (i + 1)).2)))] := by rw [show i + 1 + 2 = (i + 2) + 1 from by omega]; exact hl
                exact ih_59 (i + 1) _ (by omega) (by omega) hw (lv_sub hl [2, 3, 4, 5, 6, 7, 8, 0] rfl)
              · refine lv_iload hx hb d_AP_best_93 (lv_at hl 0 rfl) ?_
                refine lv_istore (lv' := [(6, .int (nI (pys lw (shw (wK g zj0) (i + 2)) zj1))), (8, .int (nI (pys lw (shw (wK g zj0) (i + 2)) zj1))), (0, .ref (wad g 0)), (1, .int (nI zj0)), (2, .int (nI zj1)), (3, .int (nI zj2)), (4, .ref (wad g (79 + zj0))), (5, .int (nI ((bsN (fun v => pys lw (shw (wK g zj0) v) zj1) i).1))), (7, .int (nI (i + 2)))]) hx hb d_AP_best_95 hl (by decide) rfl (fun ls hl => ?_)
                refine lv_iload hx hb d_AP_best_97 (lv_at hl 8 rfl) ?_
                refine lv_istore (lv' := [(5, .int (nI (i + 2))), (6, .int (nI (pys lw (shw (wK g zj0) (i + 2)) zj1))), (8, .int (nI (pys lw (shw (wK g zj0) (i + 2)) zj1))), (0, .ref (wad g 0)), (1, .int (nI zj0)), (2, .int (nI zj1)), (3, .int (nI zj2)), (4, .ref (wad g (79 + zj0))), (7, .int (nI (i + 2)))]) hx hb d_AP_best_99 hl (by decide) rfl (fun ls hl => ?_)
                refine lv_iinc (v := nI ((i + 2) + 1)) (lv' := [(7, .int (nI ((i + 2) + 1))), (5, .int (nI (i + 2))), (6, .int (nI (pys lw (shw (wK g zj0) (i + 2)) zj1))), (8, .int (nI (pys lw (shw (wK g zj0) (i + 2)) zj1))), (0, .ref (wad g 0)), (1, .int (nI zj0)), (2, .int (nI zj1)), (3, .int (nI zj2)), (4, .ref (wad g (79 + zj0)))]) hx hb d_AP_best_101 hl (k := 8) rfl (nI_inc1 _) (by decide) rfl (fun ls hl => ?_)
                refine lv_goto (tgt := 59) hx hb d_AP_best_104 (by decide) ?_
                have hl : lv_has ls 9 [(7, .int (nI ((i + 2) + 1))), (5, .int (nI ((bsN (fun v => pys lw (shw (wK g zj0) v) zj1) (i + 1)).1))), (6, .int (nI (pys lw (shw (wK g zj0) (i + 2)) zj1))), (8, .int (nI (pys lw (shw (wK g zj0) (i + 2)) zj1))), (0, .ref (wad g 0)), (1, .int (nI zj0)), (2, .int (nI zj1)), (3, .int (nI zj2)), (4, .ref (wad g (79 + zj0)))] := by rw [show (bsN (fun v => pys lw (shw (wK g zj0) v) zj1) (i + 1)).1 = i + 2 from by (show (if (fun v => pys lw (shw (wK g zj0) v) zj1) (i + 2) < (bsN (fun v => pys lw (shw (wK g zj0) v) zj1) i).2 then (i + 2, (fun v => pys lw (shw (wK g zj0) v) zj1) (i + 2)) else bsN (fun v => pys lw (shw (wK g zj0) v) zj1) i).1 = _; first | rw [if_pos (by assumption)] | rw [if_neg (by show ¬ (pys lw (shw (wK g zj0) (i + 2)) zj1 < _); omega)])]; exact hl
                have hl : lv_has ls 9 [(7, .int (nI ((i + 2) + 1))), (5, .int (nI ((bsN (fun v => pys lw (shw (wK g zj0) v) zj1) (i + 1)).1))), (6, .int (nI ((bsN (fun v => pys lw (shw (wK g zj0) v) zj1) (i + 1)).2))), (8, .int (nI (pys lw (shw (wK g zj0) (i + 2)) zj1))), (0, .ref (wad g 0)), (1, .int (nI zj0)), (2, .int (nI zj1)), (3, .int (nI zj2)), (4, .ref (wad g (79 + zj0)))] := by rw [show (bsN (fun v => pys lw (shw (wK g zj0) v) zj1) (i + 1)).2 = pys lw (shw (wK g zj0) (i + 2)) zj1 from by (show (if (fun v => pys lw (shw (wK g zj0) v) zj1) (i + 2) < (bsN (fun v => pys lw (shw (wK g zj0) v) zj1) i).2 then (i + 2, (fun v => pys lw (shw (wK g zj0) v) zj1) (i + 2)) else bsN (fun v => pys lw (shw (wK g zj0) v) zj1) i).2 = _; first | rw [if_pos (by assumption)] | rw [if_neg (by show ¬ (pys lw (shw (wK g zj0) (i + 2)) zj1 < _); omega)])]; exact hl
                have hl : lv_has ls 9 [(7, .int (nI (i + 1 + 2))), (5, .int (nI ((bsN (fun v => pys lw (shw (wK g zj0) v) zj1) (i + 1)).1))), (6, .int (nI ((bsN (fun v => pys lw (shw (wK g zj0) v) zj1) (i + 1)).2))), (8, .int (nI (pys lw (shw (wK g zj0) (i + 2)) zj1))), (0, .ref (wad g 0)), (1, .int (nI zj0)), (2, .int (nI zj1)), (3, .int (nI zj2)), (4, .ref (wad g (79 + zj0)))] := by rw [show i + 1 + 2 = (i + 2) + 1 from by omega]; exact hl
                exact ih_59 (i + 1) _ (by omega) (by omega) hw (lv_sub hl [4, 5, 6, 7, 8, 1, 2, 0] rfl)
        have hl : lv_has ls 9 [(7, .int (nI 2)), (6, .int (nI (pys lw (shw (wK g zj0) 1) zj1))), (5, .int (nI ((bsN (fun v => pys lw (shw (wK g zj0) v) zj1) 0).1))), (4, .ref (wad g (79 + zj0))), (0, .ref (wad g 0)), (1, .int (nI zj0)), (2, .int (nI zj1)), (3, .int (nI zj2))] := by rw [show (bsN (fun v => pys lw (shw (wK g zj0) v) zj1) 0).1 = 1 from by rfl]; exact hl
        have hl : lv_has ls 9 [(7, .int (nI 2)), (6, .int (nI ((bsN (fun v => pys lw (shw (wK g zj0) v) zj1) 0).2))), (5, .int (nI ((bsN (fun v => pys lw (shw (wK g zj0) v) zj1) 0).1))), (4, .ref (wad g (79 + zj0))), (0, .ref (wad g 0)), (1, .int (nI zj0)), (2, .int (nI zj1)), (3, .int (nI zj2))] := by rw [show (bsN (fun v => pys lw (shw (wK g zj0) v) zj1) 0).2 = pys lw (shw (wK g zj0) 1) zj1 from by rfl]; exact hl
        have hl : lv_has ls 9 [(7, .int (nI (0 + 2))), (6, .int (nI ((bsN (fun v => pys lw (shw (wK g zj0) v) zj1) 0).2))), (5, .int (nI ((bsN (fun v => pys lw (shw (wK g zj0) v) zj1) 0).1))), (4, .ref (wad g (79 + zj0))), (0, .ref (wad g 0)), (1, .int (nI zj0)), (2, .int (nI zj1)), (3, .int (nI zj2))] := by rw [show 0 + 2 = 2 from by rfl]; exact hl
        exact loop_59 _ 0 _ (Nat.lt_succ_self _) (by omega) hw (lv_sub hl [4, 5, 6, 7, 3, 2, 1, 0] rfl)
      · try unfold rng at c_2
        refine lv_bipush (v := (-2)) hx hb d_AP_best_34 (by decide) ?_
        exact R_i hc hr hlocks (by refine congrArg Value.int ?_; unfold s_best; simp only [inN, rng, zj0_t, zj0_e, zj1_t, zj1_e]; (repeat' split) <;> first | (exfalso; omega) | rfl) d_AP_best_36
  · refine kRV hc hw lk_AP_96 (As := [.int zp0]) (rest := []) (c_AP_personAt_n l D g _ pc (hPC.1) hpc6 zp0 zhq0) (rc_AP hw) ⟨Nat.le_of_ble_eq_true rfl, Nat.le_of_ble_eq_true rfl⟩ ⟨Nat.le_refl _, Nat.le_refl _⟩ rfl hl rfl (Nat.le_of_ble_eq_true rfl) d_AP_best_2 ?_
    unfold inN at zhq0
    refine lv_astoreN (lv' := [(4, .null), (0, .ref (wad g 0)), (1, .int zp0), (2, .int zp1), (3, .int zp2)]) hx hb d_AP_best_5 hl (by decide) rfl (fun ls hl => ?_)
    refine lv_aloadN hx hb d_AP_best_7 (lv_at hl 0 rfl) ?_
    refine lv_ifnonnullN hx hb d_AP_best_9 ?_
    refine lv_iconst (v := (-1)) hx hb d_AP_best_12 (by decide) ?_
    exact R_i hc hr hlocks (by refine congrArg Value.int ?_; unfold s_best; simp only [inN, rng]; (repeat' split) <;> first | (exfalso; omega) | rfl) d_AP_best_13
set_option maxHeartbeats 4000000 in
theorem c_AP_least (l : Launch) (D : va_G) (g : wG) (F : wF) (pc : Nat) (lf : Nat → Nat) (lw : Nat) (cn : Nat) (fr to hv dy : Nat → Nat) (an af : Nat → Option Nat) (ln : Nat → Option Nat) (sz : Nat → Nat) (ce : Nat → Nat → Int32) (tr ft : Int32) (hG : GI g (pc, lf) lw (cn, fr, to, hv, dy, an, af) (ln, sz, ce)) (hC : CI g F (pc, lf) lw (cn, fr, to, hv, dy, an, af) (ln, sz, ce) tr ft) (zp0 zp1 zp2 : Int32) : CR l y_AP_least b_AP_least 8 (Option.some Jvm.ClassFile.FieldType.int) 3 D g F [.ref (wad g 0), .int zp0, .int zp1, .int zp2] (.int (s_least (wK g) (pc, lf) (cn, fr, to, hv, dy, an, af) zp0 zp1 zp2)) := by
  refine CR.start rfl (Nat.le_of_ble_eq_true rfl) ?_
  intro p e s m args below meth c A ls hc hr hlocks hw hl
  have hl : lv_has ls 8 [(0, .ref (wad g 0)), (1, .int zp0), (2, .int zp1), (3, .int zp2)] := hl
  have hx := hc.1
  have hb := hc.2.1
  obtain ⟨hpc6, hpcm, hm6, hpc0, hper⟩ : PI g pc lf := hG.1
  have hlw : lw ≤ 2 := hG.2.1
  have hI : LI pc cn fr to hv dy an af := hG.2.2.1
  have hcn := hI.1
  have hSI : SI ln sz := hG.2.2.2
  have hPC : PC F pc lf := hC.1
  have hL : LC g F cn fr to hv dy an af := hC.2.2.1
  have hSC : SC F ln sz ce := hC.2.2.2.1
  refine lv_aload_n hx hb d_AP_least_0 rfl (lv_at hl 0 rfl) ?_
  refine lv_iload_n hx hb d_AP_least_1 rfl (lv_at hl 1 rfl) ?_
  by_cases zhq0 : inN zp0 pc
  · obtain ⟨zj0, rfl, zj0_1⟩ := inN_nat zhq0
    have zj0_e := nI_tI (j := zj0) (by omega)
    have zj0_t := tn_nI (j := zj0) (by omega)
    unfold inN at zhq0
    refine kRV hc hw lk_AP_96 (As := [.int (nI zj0)]) (rest := []) (c_AP_personAt_y l D g _ pc (hPC.1) hpcm hm6 (zj0) (zj0_1)) (rc_AP hw) ⟨Nat.le_of_ble_eq_true rfl, Nat.le_of_ble_eq_true rfl⟩ ⟨Nat.le_refl _, Nat.le_refl _⟩ rfl hl rfl (Nat.le_of_ble_eq_true rfl) d_AP_least_2 ?_
    refine lv_ifnonnull (tgt := 10) hx hb d_AP_least_5 (by decide) ?_
    refine lv_iload_n hx hb d_AP_least_10 rfl (lv_at hl 2 rfl) ?_
    refine kRS hc hw lk_AP_113 (As := [.int zp1]) (rest := []) (c_AP_isDay l D g _ (zp1)) ⟨Nat.le_of_ble_eq_true rfl, Nat.le_of_ble_eq_true rfl⟩ ⟨Nat.le_refl _, Nat.le_refl _⟩ rfl hl rfl (Nat.le_of_ble_eq_true rfl) d_AP_least_11 ?_
    refine b_if_eq (tgt := 26) hc d_AP_least_14 (by decide) (fun c_1 => ?_) (fun c_1 => ?_)
    · try unfold rng at c_1
      refine lv_bipush (v := (-2)) hx hb d_AP_least_26 (by decide) ?_
      exact R_i hc hr hlocks (by refine congrArg Value.int ?_; unfold s_least; simp only [inN, rng, zj0_t, zj0_e, Lpd]; change _ = _; (try simp only [show (fun k => Lsc (wK g) (cn, fr, to, hv, dy, an, af) k) = lsc g fr hv from rfl, show Lsc (wK g) (cn, fr, to, hv, dy, an, af) = lsc g fr hv from rfl]); (repeat' split) <;> first | (exfalso; omega) | rfl) d_AP_least_28
    · obtain ⟨zj1, rfl, zj1_1, zj1_2⟩ := rng_nat c_1 (by decide)
      have zj1_e := nI_tI (j := zj1) (by omega)
      have zj1_t := tn_nI (j := zj1) (by omega)
      try unfold rng at c_1
      refine lv_iload_n hx hb d_AP_least_17 rfl (lv_at hl 3 rfl) ?_
      refine lv_iconst (v := nI 0) hx hb d_AP_least_18 (by decide) ?_
      refine lv_iconst (v := nI 1) hx hb d_AP_least_19 (by decide) ?_
      refine kRS hc hw lk_AP_67 (As := [.int zp2, .int (nI 0), .int (nI 1)]) (rest := []) (c_AP_isWithin l D g _ (zp2) (nI 0) (nI 1) 0 1 (by decide) (by decide)) ⟨Nat.le_of_ble_eq_true rfl, Nat.le_of_ble_eq_true rfl⟩ ⟨Nat.le_refl _, Nat.le_refl _⟩ rfl hl rfl (Nat.le_of_ble_eq_true rfl) d_AP_least_20 ?_
      refine b_if_ne (tgt := 29) hc d_AP_least_23 (by decide) (fun c_2 => ?_) (fun c_2 => ?_)
      · obtain ⟨zj2, rfl, zj2_1, zj2_2⟩ := rng_nat c_2 (by decide)
        have zj2_e := nI_tI (j := zj2) (by omega)
        have zj2_t := tn_nI (j := zj2) (by omega)
        try unfold rng at c_2
        have hb0 := pd_le (g := g) hI 0 zj0 zj1
        have hb1 := pd_le (g := g) hI 1 zj0 zj1
        have hb2 := pd_le (g := g) hI 2 zj0 zj1
        refine lv_iconst (v := nI 0) hx hb d_AP_least_29 (by decide) ?_
        refine lv_istore (lv' := [(4, .int (nI 0)), (0, .ref (wad g 0)), (1, .int (nI zj0)), (2, .int (nI zj1)), (3, .int (nI zj2))]) hx hb d_AP_least_30 hl (by decide) rfl (fun ls hl => ?_)
        refine lv_aload_n hx hb d_AP_least_32 rfl (lv_at hl 1 rfl) ?_
        refine gf_AP_27 hc hw d_AP_least_33 ?_
        refine lv_iload_n hx hb d_AP_least_36 rfl (lv_at hl 2 rfl) ?_
        refine lv_iload_n hx hb d_AP_least_37 rfl (lv_at hl 3 rfl) ?_
        refine lv_iconst (v := nI 0) hx hb d_AP_least_38 (by decide) ?_
        refine kRV hc hw lk_AP_163 (As := [.int (nI zj0), .int (nI zj1), .int (nI 0)]) (rest := []) (c_LE_paidBy l D g _ pc cn fr to hv dy an af hI hL 0 zj0 zj1 (by omega) hpc6 (by omega) (by omega)) (rc_LE hw) ⟨Nat.le_of_ble_eq_true rfl, Nat.le_of_ble_eq_true rfl⟩ ⟨Nat.le_refl _, Nat.le_refl _⟩ rfl hl rfl (Nat.le_of_ble_eq_true rfl) d_AP_least_39 ?_
        refine lv_istore (lv' := [(5, .int (nI (pdS 0 zj0 zj1 fr to dy an (lsc g fr hv) cn))), (4, .int (nI 0)), (0, .ref (wad g 0)), (1, .int (nI zj0)), (2, .int (nI zj1)), (3, .int (nI zj2))]) hx hb d_AP_least_42 hl (by decide) rfl (fun ls hl => ?_)
        refine lv_iconst (v := nI 1) hx hb d_AP_least_44 (by decide) ?_
        refine lv_istore (lv' := [(6, .int (nI 1)), (5, .int (nI (pdS 0 zj0 zj1 fr to dy an (lsc g fr hv) cn))), (4, .int (nI 0)), (0, .ref (wad g 0)), (1, .int (nI zj0)), (2, .int (nI zj1)), (3, .int (nI zj2))]) hx hb d_AP_least_45 hl (by decide) rfl (fun ls hl => ?_)
        refine lv_iload hx hb d_AP_least_47 (lv_at hl 0 rfl) ?_
        refine lv_iconst (v := nI 3) hx hb d_AP_least_49 (by decide) ?_
        refine q_icmp_ge (tgt := 87) hc (by omega) (by omega) d_AP_least_50 (by decide) (fun c_3 => ?_) (fun c_3 => ?_)
        · exact absurd c_3 (by first | omega | decide)
        · refine lv_aload_n hx hb d_AP_least_53 rfl (lv_at hl 3 rfl) ?_
          refine gf_AP_27 hc hw d_AP_least_54 ?_
          refine lv_iload_n hx hb d_AP_least_57 rfl (lv_at hl 4 rfl) ?_
          refine lv_iload_n hx hb d_AP_least_58 rfl (lv_at hl 5 rfl) ?_
          refine lv_iload hx hb d_AP_least_59 (lv_at hl 0 rfl) ?_
          refine kRV hc hw lk_AP_163 (As := [.int (nI zj0), .int (nI zj1), .int (nI 1)]) (rest := []) (c_LE_paidBy l D g _ pc cn fr to hv dy an af hI hL 1 zj0 zj1 (by omega) hpc6 (by omega) (by omega)) (rc_LE hw) ⟨Nat.le_of_ble_eq_true rfl, Nat.le_of_ble_eq_true rfl⟩ ⟨Nat.le_refl _, Nat.le_refl _⟩ rfl hl rfl (Nat.le_of_ble_eq_true rfl) d_AP_least_61 ?_
          refine lv_istore (lv' := [(7, .int (nI (pdS 1 zj0 zj1 fr to dy an (lsc g fr hv) cn))), (6, .int (nI 1)), (5, .int (nI (pdS 0 zj0 zj1 fr to dy an (lsc g fr hv) cn))), (4, .int (nI 0)), (0, .ref (wad g 0)), (1, .int (nI zj0)), (2, .int (nI zj1)), (3, .int (nI zj2))]) hx hb d_AP_least_64 hl (by decide) rfl (fun ls hl => ?_)
          refine lv_iload hx hb d_AP_least_66 (lv_at hl 0 rfl) ?_
          refine lv_iload hx hb d_AP_least_68 (lv_at hl 2 rfl) ?_
          refine q_icmp_ge (tgt := 81) hc (by omega) (by omega) d_AP_least_70 (by decide) (fun c_4 => ?_) (fun c_4 => ?_)
          · refine lv_iinc (v := nI 2) (lv' := [(6, .int (nI 2)), (7, .int (nI (pdS 1 zj0 zj1 fr to dy an (lsc g fr hv) cn))), (5, .int (nI (pdS 0 zj0 zj1 fr to dy an (lsc g fr hv) cn))), (4, .int (nI 0)), (0, .ref (wad g 0)), (1, .int (nI zj0)), (2, .int (nI zj1)), (3, .int (nI zj2))]) hx hb d_AP_least_81 hl (k := 1) rfl (show nI 1 + Int32.ofInt 1 = nI 2 from by decide) (by decide) rfl (fun ls hl => ?_)
            refine lv_goto (tgt := 47) hx hb d_AP_least_84 (by decide) ?_
            refine lv_iload hx hb d_AP_least_47 (lv_at hl 0 rfl) ?_
            refine lv_iconst (v := nI 3) hx hb d_AP_least_49 (by decide) ?_
            refine q_icmp_ge (tgt := 87) hc (by omega) (by omega) d_AP_least_50 (by decide) (fun c_5 => ?_) (fun c_5 => ?_)
            · exact absurd c_5 (by first | omega | decide)
            · refine lv_aload_n hx hb d_AP_least_53 rfl (lv_at hl 4 rfl) ?_
              refine gf_AP_27 hc hw d_AP_least_54 ?_
              refine lv_iload_n hx hb d_AP_least_57 rfl (lv_at hl 5 rfl) ?_
              refine lv_iload_n hx hb d_AP_least_58 rfl (lv_at hl 6 rfl) ?_
              refine lv_iload hx hb d_AP_least_59 (lv_at hl 0 rfl) ?_
              refine kRV hc hw lk_AP_163 (As := [.int (nI zj0), .int (nI zj1), .int (nI 2)]) (rest := []) (c_LE_paidBy l D g _ pc cn fr to hv dy an af hI hL 2 zj0 zj1 (by omega) hpc6 (by omega) (by omega)) (rc_LE hw) ⟨Nat.le_of_ble_eq_true rfl, Nat.le_of_ble_eq_true rfl⟩ ⟨Nat.le_refl _, Nat.le_refl _⟩ rfl hl rfl (Nat.le_of_ble_eq_true rfl) d_AP_least_61 ?_
              refine lv_istore (lv' := [(7, .int (nI (pdS 2 zj0 zj1 fr to dy an (lsc g fr hv) cn))), (6, .int (nI 2)), (5, .int (nI (pdS 0 zj0 zj1 fr to dy an (lsc g fr hv) cn))), (4, .int (nI 0)), (0, .ref (wad g 0)), (1, .int (nI zj0)), (2, .int (nI zj1)), (3, .int (nI zj2))]) hx hb d_AP_least_64 hl (by decide) rfl (fun ls hl => ?_)
              refine lv_iload hx hb d_AP_least_66 (lv_at hl 0 rfl) ?_
              refine lv_iload hx hb d_AP_least_68 (lv_at hl 2 rfl) ?_
              refine q_icmp_ge (tgt := 81) hc (by omega) (by omega) d_AP_least_70 (by decide) (fun c_6 => ?_) (fun c_6 => ?_)
              · refine lv_iinc (v := nI 3) (lv' := [(6, .int (nI 3)), (7, .int (nI (pdS 2 zj0 zj1 fr to dy an (lsc g fr hv) cn))), (5, .int (nI (pdS 0 zj0 zj1 fr to dy an (lsc g fr hv) cn))), (4, .int (nI 0)), (0, .ref (wad g 0)), (1, .int (nI zj0)), (2, .int (nI zj1)), (3, .int (nI zj2))]) hx hb d_AP_least_81 hl (k := 1) rfl (show nI 2 + Int32.ofInt 1 = nI 3 from by decide) (by decide) rfl (fun ls hl => ?_)
                refine lv_goto (tgt := 47) hx hb d_AP_least_84 (by decide) ?_
                refine lv_iload hx hb d_AP_least_47 (lv_at hl 0 rfl) ?_
                refine lv_iconst (v := nI 3) hx hb d_AP_least_49 (by decide) ?_
                refine q_icmp_ge (tgt := 87) hc (by omega) (by omega) d_AP_least_50 (by decide) (fun c_7 => ?_) (fun c_7 => ?_)
                · refine lv_iload_n hx hb d_AP_least_87 rfl (lv_at hl 7 rfl) ?_
                  refine q_if_ne (tgt := 96) hc (by omega) d_AP_least_88 (by decide) (fun c_8 => ?_) (fun c_8 => ?_)
                  · refine lv_iload hx hb d_AP_least_96 (lv_at hl 2 rfl) ?_
                    exact R_i hc hr hlocks (by refine congrArg Value.int ?_; unfold s_least; simp only [inN, rng, zj0_t, zj0_e, zj1_t, zj1_e, zj2_t, zj2_e, Lpd]; change _ = _; (try simp only [show (fun k => Lsc (wK g) (cn, fr, to, hv, dy, an, af) k) = lsc g fr hv from rfl, show Lsc (wK g) (cn, fr, to, hv, dy, an, af) = lsc g fr hv from rfl]); (repeat' split) <;> first | (exfalso; omega) | rfl) d_AP_least_98
                  · refine lv_iload hx hb d_AP_least_91 (lv_at hl 3 rfl) ?_
                    refine lv_goto (tgt := 98) hx hb d_AP_least_93 (by decide) ?_
                    exact R_i hc hr hlocks (by refine congrArg Value.int ?_; unfold s_least; simp only [inN, rng, zj0_t, zj0_e, zj1_t, zj1_e, zj2_t, zj2_e, Lpd]; change _ = _; (try simp only [show (fun k => Lsc (wK g) (cn, fr, to, hv, dy, an, af) k) = lsc g fr hv from rfl, show Lsc (wK g) (cn, fr, to, hv, dy, an, af) = lsc g fr hv from rfl]); (repeat' split) <;> first | (exfalso; omega) | rfl) d_AP_least_98
                · exact absurd c_7 (by first | omega | decide)
              · refine lv_iload hx hb d_AP_least_73 (lv_at hl 0 rfl) ?_
                refine lv_istore (lv' := [(5, .int (nI (pdS 2 zj0 zj1 fr to dy an (lsc g fr hv) cn))), (7, .int (nI (pdS 2 zj0 zj1 fr to dy an (lsc g fr hv) cn))), (6, .int (nI 2)), (4, .int (nI 0)), (0, .ref (wad g 0)), (1, .int (nI zj0)), (2, .int (nI zj1)), (3, .int (nI zj2))]) hx hb d_AP_least_75 hl (by decide) rfl (fun ls hl => ?_)
                refine lv_iload hx hb d_AP_least_77 (lv_at hl 2 rfl) ?_
                refine lv_istore (lv' := [(4, .int (nI 2)), (5, .int (nI (pdS 2 zj0 zj1 fr to dy an (lsc g fr hv) cn))), (7, .int (nI (pdS 2 zj0 zj1 fr to dy an (lsc g fr hv) cn))), (6, .int (nI 2)), (0, .ref (wad g 0)), (1, .int (nI zj0)), (2, .int (nI zj1)), (3, .int (nI zj2))]) hx hb d_AP_least_79 hl (by decide) rfl (fun ls hl => ?_)
                refine lv_iinc (v := nI 3) (lv' := [(6, .int (nI 3)), (4, .int (nI 2)), (5, .int (nI (pdS 2 zj0 zj1 fr to dy an (lsc g fr hv) cn))), (7, .int (nI (pdS 2 zj0 zj1 fr to dy an (lsc g fr hv) cn))), (0, .ref (wad g 0)), (1, .int (nI zj0)), (2, .int (nI zj1)), (3, .int (nI zj2))]) hx hb d_AP_least_81 hl (k := 3) rfl (show nI 2 + Int32.ofInt 1 = nI 3 from by decide) (by decide) rfl (fun ls hl => ?_)
                refine lv_goto (tgt := 47) hx hb d_AP_least_84 (by decide) ?_
                refine lv_iload hx hb d_AP_least_47 (lv_at hl 0 rfl) ?_
                refine lv_iconst (v := nI 3) hx hb d_AP_least_49 (by decide) ?_
                refine q_icmp_ge (tgt := 87) hc (by omega) (by omega) d_AP_least_50 (by decide) (fun c_9 => ?_) (fun c_9 => ?_)
                · refine lv_iload_n hx hb d_AP_least_87 rfl (lv_at hl 7 rfl) ?_
                  refine q_if_ne (tgt := 96) hc (by omega) d_AP_least_88 (by decide) (fun c_10 => ?_) (fun c_10 => ?_)
                  · refine lv_iload hx hb d_AP_least_96 (lv_at hl 2 rfl) ?_
                    exact R_i hc hr hlocks (by refine congrArg Value.int ?_; unfold s_least; simp only [inN, rng, zj0_t, zj0_e, zj1_t, zj1_e, zj2_t, zj2_e, Lpd]; change _ = _; (try simp only [show (fun k => Lsc (wK g) (cn, fr, to, hv, dy, an, af) k) = lsc g fr hv from rfl, show Lsc (wK g) (cn, fr, to, hv, dy, an, af) = lsc g fr hv from rfl]); (repeat' split) <;> first | (exfalso; omega) | rfl) d_AP_least_98
                  · refine lv_iload hx hb d_AP_least_91 (lv_at hl 1 rfl) ?_
                    refine lv_goto (tgt := 98) hx hb d_AP_least_93 (by decide) ?_
                    exact R_i hc hr hlocks (by refine congrArg Value.int ?_; unfold s_least; simp only [inN, rng, zj0_t, zj0_e, zj1_t, zj1_e, zj2_t, zj2_e, Lpd]; change _ = _; (try simp only [show (fun k => Lsc (wK g) (cn, fr, to, hv, dy, an, af) k) = lsc g fr hv from rfl, show Lsc (wK g) (cn, fr, to, hv, dy, an, af) = lsc g fr hv from rfl]); (repeat' split) <;> first | (exfalso; omega) | rfl) d_AP_least_98
                · exact absurd c_9 (by first | omega | decide)
          · refine lv_iload hx hb d_AP_least_73 (lv_at hl 0 rfl) ?_
            refine lv_istore (lv' := [(5, .int (nI (pdS 1 zj0 zj1 fr to dy an (lsc g fr hv) cn))), (7, .int (nI (pdS 1 zj0 zj1 fr to dy an (lsc g fr hv) cn))), (6, .int (nI 1)), (4, .int (nI 0)), (0, .ref (wad g 0)), (1, .int (nI zj0)), (2, .int (nI zj1)), (3, .int (nI zj2))]) hx hb d_AP_least_75 hl (by decide) rfl (fun ls hl => ?_)
            refine lv_iload hx hb d_AP_least_77 (lv_at hl 2 rfl) ?_
            refine lv_istore (lv' := [(4, .int (nI 1)), (5, .int (nI (pdS 1 zj0 zj1 fr to dy an (lsc g fr hv) cn))), (7, .int (nI (pdS 1 zj0 zj1 fr to dy an (lsc g fr hv) cn))), (6, .int (nI 1)), (0, .ref (wad g 0)), (1, .int (nI zj0)), (2, .int (nI zj1)), (3, .int (nI zj2))]) hx hb d_AP_least_79 hl (by decide) rfl (fun ls hl => ?_)
            refine lv_iinc (v := nI 2) (lv' := [(6, .int (nI 2)), (4, .int (nI 1)), (5, .int (nI (pdS 1 zj0 zj1 fr to dy an (lsc g fr hv) cn))), (7, .int (nI (pdS 1 zj0 zj1 fr to dy an (lsc g fr hv) cn))), (0, .ref (wad g 0)), (1, .int (nI zj0)), (2, .int (nI zj1)), (3, .int (nI zj2))]) hx hb d_AP_least_81 hl (k := 3) rfl (show nI 1 + Int32.ofInt 1 = nI 2 from by decide) (by decide) rfl (fun ls hl => ?_)
            refine lv_goto (tgt := 47) hx hb d_AP_least_84 (by decide) ?_
            refine lv_iload hx hb d_AP_least_47 (lv_at hl 0 rfl) ?_
            refine lv_iconst (v := nI 3) hx hb d_AP_least_49 (by decide) ?_
            refine q_icmp_ge (tgt := 87) hc (by omega) (by omega) d_AP_least_50 (by decide) (fun c_11 => ?_) (fun c_11 => ?_)
            · exact absurd c_11 (by first | omega | decide)
            · refine lv_aload_n hx hb d_AP_least_53 rfl (lv_at hl 4 rfl) ?_
              refine gf_AP_27 hc hw d_AP_least_54 ?_
              refine lv_iload_n hx hb d_AP_least_57 rfl (lv_at hl 5 rfl) ?_
              refine lv_iload_n hx hb d_AP_least_58 rfl (lv_at hl 6 rfl) ?_
              refine lv_iload hx hb d_AP_least_59 (lv_at hl 0 rfl) ?_
              refine kRV hc hw lk_AP_163 (As := [.int (nI zj0), .int (nI zj1), .int (nI 2)]) (rest := []) (c_LE_paidBy l D g _ pc cn fr to hv dy an af hI hL 2 zj0 zj1 (by omega) hpc6 (by omega) (by omega)) (rc_LE hw) ⟨Nat.le_of_ble_eq_true rfl, Nat.le_of_ble_eq_true rfl⟩ ⟨Nat.le_refl _, Nat.le_refl _⟩ rfl hl rfl (Nat.le_of_ble_eq_true rfl) d_AP_least_61 ?_
              refine lv_istore (lv' := [(7, .int (nI (pdS 2 zj0 zj1 fr to dy an (lsc g fr hv) cn))), (6, .int (nI 2)), (4, .int (nI 1)), (5, .int (nI (pdS 1 zj0 zj1 fr to dy an (lsc g fr hv) cn))), (0, .ref (wad g 0)), (1, .int (nI zj0)), (2, .int (nI zj1)), (3, .int (nI zj2))]) hx hb d_AP_least_64 hl (by decide) rfl (fun ls hl => ?_)
              refine lv_iload hx hb d_AP_least_66 (lv_at hl 0 rfl) ?_
              refine lv_iload hx hb d_AP_least_68 (lv_at hl 3 rfl) ?_
              refine q_icmp_ge (tgt := 81) hc (by omega) (by omega) d_AP_least_70 (by decide) (fun c_12 => ?_) (fun c_12 => ?_)
              · refine lv_iinc (v := nI 3) (lv' := [(6, .int (nI 3)), (7, .int (nI (pdS 2 zj0 zj1 fr to dy an (lsc g fr hv) cn))), (4, .int (nI 1)), (5, .int (nI (pdS 1 zj0 zj1 fr to dy an (lsc g fr hv) cn))), (0, .ref (wad g 0)), (1, .int (nI zj0)), (2, .int (nI zj1)), (3, .int (nI zj2))]) hx hb d_AP_least_81 hl (k := 1) rfl (show nI 2 + Int32.ofInt 1 = nI 3 from by decide) (by decide) rfl (fun ls hl => ?_)
                refine lv_goto (tgt := 47) hx hb d_AP_least_84 (by decide) ?_
                refine lv_iload hx hb d_AP_least_47 (lv_at hl 0 rfl) ?_
                refine lv_iconst (v := nI 3) hx hb d_AP_least_49 (by decide) ?_
                refine q_icmp_ge (tgt := 87) hc (by omega) (by omega) d_AP_least_50 (by decide) (fun c_13 => ?_) (fun c_13 => ?_)
                · refine lv_iload_n hx hb d_AP_least_87 rfl (lv_at hl 7 rfl) ?_
                  refine q_if_ne (tgt := 96) hc (by omega) d_AP_least_88 (by decide) (fun c_14 => ?_) (fun c_14 => ?_)
                  · refine lv_iload hx hb d_AP_least_96 (lv_at hl 3 rfl) ?_
                    exact R_i hc hr hlocks (by refine congrArg Value.int ?_; unfold s_least; simp only [inN, rng, zj0_t, zj0_e, zj1_t, zj1_e, zj2_t, zj2_e, Lpd]; change _ = _; (try simp only [show (fun k => Lsc (wK g) (cn, fr, to, hv, dy, an, af) k) = lsc g fr hv from rfl, show Lsc (wK g) (cn, fr, to, hv, dy, an, af) = lsc g fr hv from rfl]); (repeat' split) <;> first | (exfalso; omega) | rfl) d_AP_least_98
                  · refine lv_iload hx hb d_AP_least_91 (lv_at hl 2 rfl) ?_
                    refine lv_goto (tgt := 98) hx hb d_AP_least_93 (by decide) ?_
                    exact R_i hc hr hlocks (by refine congrArg Value.int ?_; unfold s_least; simp only [inN, rng, zj0_t, zj0_e, zj1_t, zj1_e, zj2_t, zj2_e, Lpd]; change _ = _; (try simp only [show (fun k => Lsc (wK g) (cn, fr, to, hv, dy, an, af) k) = lsc g fr hv from rfl, show Lsc (wK g) (cn, fr, to, hv, dy, an, af) = lsc g fr hv from rfl]); (repeat' split) <;> first | (exfalso; omega) | rfl) d_AP_least_98
                · exact absurd c_13 (by first | omega | decide)
              · refine lv_iload hx hb d_AP_least_73 (lv_at hl 0 rfl) ?_
                refine lv_istore (lv' := [(5, .int (nI (pdS 2 zj0 zj1 fr to dy an (lsc g fr hv) cn))), (7, .int (nI (pdS 2 zj0 zj1 fr to dy an (lsc g fr hv) cn))), (6, .int (nI 2)), (4, .int (nI 1)), (0, .ref (wad g 0)), (1, .int (nI zj0)), (2, .int (nI zj1)), (3, .int (nI zj2))]) hx hb d_AP_least_75 hl (by decide) rfl (fun ls hl => ?_)
                refine lv_iload hx hb d_AP_least_77 (lv_at hl 2 rfl) ?_
                refine lv_istore (lv' := [(4, .int (nI 2)), (5, .int (nI (pdS 2 zj0 zj1 fr to dy an (lsc g fr hv) cn))), (7, .int (nI (pdS 2 zj0 zj1 fr to dy an (lsc g fr hv) cn))), (6, .int (nI 2)), (0, .ref (wad g 0)), (1, .int (nI zj0)), (2, .int (nI zj1)), (3, .int (nI zj2))]) hx hb d_AP_least_79 hl (by decide) rfl (fun ls hl => ?_)
                refine lv_iinc (v := nI 3) (lv' := [(6, .int (nI 3)), (4, .int (nI 2)), (5, .int (nI (pdS 2 zj0 zj1 fr to dy an (lsc g fr hv) cn))), (7, .int (nI (pdS 2 zj0 zj1 fr to dy an (lsc g fr hv) cn))), (0, .ref (wad g 0)), (1, .int (nI zj0)), (2, .int (nI zj1)), (3, .int (nI zj2))]) hx hb d_AP_least_81 hl (k := 3) rfl (show nI 2 + Int32.ofInt 1 = nI 3 from by decide) (by decide) rfl (fun ls hl => ?_)
                refine lv_goto (tgt := 47) hx hb d_AP_least_84 (by decide) ?_
                refine lv_iload hx hb d_AP_least_47 (lv_at hl 0 rfl) ?_
                refine lv_iconst (v := nI 3) hx hb d_AP_least_49 (by decide) ?_
                refine q_icmp_ge (tgt := 87) hc (by omega) (by omega) d_AP_least_50 (by decide) (fun c_15 => ?_) (fun c_15 => ?_)
                · refine lv_iload_n hx hb d_AP_least_87 rfl (lv_at hl 7 rfl) ?_
                  refine q_if_ne (tgt := 96) hc (by omega) d_AP_least_88 (by decide) (fun c_16 => ?_) (fun c_16 => ?_)
                  · refine lv_iload hx hb d_AP_least_96 (lv_at hl 2 rfl) ?_
                    exact R_i hc hr hlocks (by refine congrArg Value.int ?_; unfold s_least; simp only [inN, rng, zj0_t, zj0_e, zj1_t, zj1_e, zj2_t, zj2_e, Lpd]; change _ = _; (try simp only [show (fun k => Lsc (wK g) (cn, fr, to, hv, dy, an, af) k) = lsc g fr hv from rfl, show Lsc (wK g) (cn, fr, to, hv, dy, an, af) = lsc g fr hv from rfl]); (repeat' split) <;> first | (exfalso; omega) | rfl) d_AP_least_98
                  · refine lv_iload hx hb d_AP_least_91 (lv_at hl 1 rfl) ?_
                    refine lv_goto (tgt := 98) hx hb d_AP_least_93 (by decide) ?_
                    exact R_i hc hr hlocks (by refine congrArg Value.int ?_; unfold s_least; simp only [inN, rng, zj0_t, zj0_e, zj1_t, zj1_e, zj2_t, zj2_e, Lpd]; change _ = _; (try simp only [show (fun k => Lsc (wK g) (cn, fr, to, hv, dy, an, af) k) = lsc g fr hv from rfl, show Lsc (wK g) (cn, fr, to, hv, dy, an, af) = lsc g fr hv from rfl]); (repeat' split) <;> first | (exfalso; omega) | rfl) d_AP_least_98
                · exact absurd c_15 (by first | omega | decide)
      · try unfold rng at c_2
        refine lv_bipush (v := (-2)) hx hb d_AP_least_26 (by decide) ?_
        exact R_i hc hr hlocks (by refine congrArg Value.int ?_; unfold s_least; simp only [inN, rng, zj0_t, zj0_e, zj1_t, zj1_e, Lpd]; change _ = _; (try simp only [show (fun k => Lsc (wK g) (cn, fr, to, hv, dy, an, af) k) = lsc g fr hv from rfl, show Lsc (wK g) (cn, fr, to, hv, dy, an, af) = lsc g fr hv from rfl]); (repeat' split) <;> first | (exfalso; omega) | rfl) d_AP_least_28
  · refine kRV hc hw lk_AP_96 (As := [.int zp0]) (rest := []) (c_AP_personAt_n l D g _ pc (hPC.1) hpc6 zp0 zhq0) (rc_AP hw) ⟨Nat.le_of_ble_eq_true rfl, Nat.le_of_ble_eq_true rfl⟩ ⟨Nat.le_refl _, Nat.le_refl _⟩ rfl hl rfl (Nat.le_of_ble_eq_true rfl) d_AP_least_2 ?_
    unfold inN at zhq0
    refine lv_ifnonnullN hx hb d_AP_least_5 ?_
    refine lv_iconst (v := (-1)) hx hb d_AP_least_8 (by decide) ?_
    exact R_i hc hr hlocks (by refine congrArg Value.int ?_; unfold s_least; simp only [inN, rng, Lpd]; change _ = _; (try simp only [show (fun k => Lsc (wK g) (cn, fr, to, hv, dy, an, af) k) = lsc g fr hv from rfl, show Lsc (wK g) (cn, fr, to, hv, dy, an, af) = lsc g fr hv from rfl]); (repeat' split) <;> first | (exfalso; omega) | rfl) d_AP_least_9
set_option maxHeartbeats 4000000 in
theorem c_AP_weights (l : Launch) (D : va_G) (g : wG) (F : wF) (pc : Nat) (lf : Nat → Nat) (lw : Nat) (cn : Nat) (fr to hv dy : Nat → Nat) (an af : Nat → Option Nat) (ln : Nat → Option Nat) (sz : Nat → Nat) (ce : Nat → Nat → Int32) (tr ft : Int32) (hG : GI g (pc, lf) lw (cn, fr, to, hv, dy, an, af) (ln, sz, ce)) (hC : CI g F (pc, lf) lw (cn, fr, to, hv, dy, an, af) (ln, sz, ce) tr ft) (zp0 zp1 zp2 zp3 zp4 : Int32) : CR l y_AP_weights b_AP_weights 9 (Option.some Jvm.ClassFile.FieldType.int) 3 D g F [.ref (wad g 0), .int zp0, .int zp1, .int zp2, .int zp3, .int zp4] (.int (s_weights (wK g) (pc, lf) lw (cn, fr, to, hv, dy, an, af) zp0 zp1 zp2 zp3 zp4)) := by
  refine CR.start rfl (Nat.le_of_ble_eq_true rfl) ?_
  intro p e s m args below meth c A ls hc hr hlocks hw hl
  have hl : lv_has ls 9 [(0, .ref (wad g 0)), (1, .int zp0), (2, .int zp1), (3, .int zp2), (4, .int zp3), (5, .int zp4)] := hl
  have hx := hc.1
  have hb := hc.2.1
  obtain ⟨hpc6, hpcm, hm6, hpc0, hper⟩ : PI g pc lf := hG.1
  have hlw : lw ≤ 2 := hG.2.1
  have hI : LI pc cn fr to hv dy an af := hG.2.2.1
  have hcn := hI.1
  have hSI : SI ln sz := hG.2.2.2
  have hPC : PC F pc lf := hC.1
  have hL : LC g F cn fr to hv dy an af := hC.2.2.1
  have hSC : SC F ln sz ce := hC.2.2.2.1
  refine lv_aload_n hx hb d_AP_weights_0 rfl (lv_at hl 0 rfl) ?_
  refine gf_AP_27 hc hw d_AP_weights_1 ?_
  refine lv_iload_n hx hb d_AP_weights_4 rfl (lv_at hl 1 rfl) ?_
  refine kRV hc hw lk_AP_125 (As := [.int zp0]) (rest := []) (c_LE_has l D g _ cn hL.1 hcn (zp0)) (rc_LE hw) ⟨Nat.le_of_ble_eq_true rfl, Nat.le_of_ble_eq_true rfl⟩ ⟨Nat.le_refl _, Nat.le_refl _⟩ rfl hl rfl (Nat.le_of_ble_eq_true rfl) d_AP_weights_5 ?_
  refine b_if_eq (tgt := 25) hc d_AP_weights_8 (by decide) (fun c_1 => ?_) (fun c_1 => ?_)
  · try unfold inN at c_1
    refine lv_iconst (v := (-1)) hx hb d_AP_weights_25 (by decide) ?_
    exact R_i hc hr hlocks (by refine congrArg Value.int ?_; unfold s_weights; (try simp only [inN, rng]); (repeat' split) <;> first | (exfalso; omega) | contradiction | rfl) d_AP_weights_26
  · obtain ⟨zj0, rfl, zj0_1⟩ := inN_nat c_1
    have zj0_e := nI_tI (j := zj0) (by omega)
    have zj0_t := tn_nI (j := zj0) (by omega)
    try unfold inN at c_1
    refine lv_aload_n hx hb d_AP_weights_11 rfl (lv_at hl 0 rfl) ?_
    refine lv_iload_n hx hb d_AP_weights_12 rfl (lv_at hl 2 rfl) ?_
    by_cases zhq1 : inN zp1 pc
    · obtain ⟨zj1, rfl, zj1_1⟩ := inN_nat zhq1
      have zj1_e := nI_tI (j := zj1) (by omega)
      have zj1_t := tn_nI (j := zj1) (by omega)
      unfold inN at zhq1
      refine kRV hc hw lk_AP_96 (As := [.int (nI zj1)]) (rest := []) (c_AP_personAt_y l D g _ pc (hPC.1) hpcm hm6 (zj1) (zj1_1)) (rc_AP hw) ⟨Nat.le_of_ble_eq_true rfl, Nat.le_of_ble_eq_true rfl⟩ ⟨Nat.le_refl _, Nat.le_refl _⟩ rfl hl rfl (Nat.le_of_ble_eq_true rfl) d_AP_weights_13 ?_
      refine lv_ifnull hx hb d_AP_weights_16 ?_
      refine lv_iload hx hb d_AP_weights_19 (lv_at hl 5 rfl) ?_
      refine lv_iconst (v := (-1)) hx hb d_AP_weights_21 (by decide) ?_
      refine u_icmp_ge (tgt := 27) (X := (zp4).toInt) (Y := (-1)) hc (rfl) (by decide) d_AP_weights_22 (by decide) (fun c_2 => ?_) (fun c_2 => ?_)
      · refine lv_iload_n hx hb d_AP_weights_27 rfl (lv_at hl 3 rfl) ?_
        refine kRS hc hw lk_AP_113 (As := [.int zp2]) (rest := []) (c_AP_isDay l D g _ (zp2)) ⟨Nat.le_of_ble_eq_true rfl, Nat.le_of_ble_eq_true rfl⟩ ⟨Nat.le_refl _, Nat.le_refl _⟩ rfl hl rfl (Nat.le_of_ble_eq_true rfl) d_AP_weights_28 ?_
        refine b_if_ne (tgt := 37) hc d_AP_weights_31 (by decide) (fun c_3 => ?_) (fun c_3 => ?_)
        · obtain ⟨zj2, rfl, zj2_1, zj2_2⟩ := rng_nat c_3 (by decide)
          have zj2_e := nI_tI (j := zj2) (by omega)
          have zj2_t := tn_nI (j := zj2) (by omega)
          try unfold rng at c_3
          obtain ⟨⟨hi1, hi2, hi3, hi4, hi5, hi6⟩, hi7, hi8⟩ := hI.2 zj0 (by omega)
          refine lv_aload_n hx hb d_AP_weights_37 rfl (lv_at hl 0 rfl) ?_
          refine lv_aload_n hx hb d_AP_weights_38 rfl (lv_at hl 0 rfl) ?_
          refine gf_AP_27 hc hw d_AP_weights_39 ?_
          refine gf_AP_137 hc hw d_AP_weights_42 ?_
          refine lv_iload_n hx hb d_AP_weights_45 rfl (lv_at hl 1 rfl) ?_
          refine r_iald hc hw (h := 12) (n := 24) (i := zj0) (fun _ => rfl) (by omega) (by omega) (by decide) d_AP_weights_46 (v := .int (nI (fr zj0))) (congrArg Value.int ((hL.2 (zj0) (by omega)).1)) ?_
          refine kRV hc hw lk_AP_96 (As := [.int (nI (fr zj0))]) (rest := []) (c_AP_personAt_y l D g _ pc (hPC.1) hpcm hm6 (fr zj0) (by omega)) (rc_AP hw) ⟨Nat.le_of_ble_eq_true rfl, Nat.le_of_ble_eq_true rfl⟩ ⟨Nat.le_refl _, Nat.le_refl _⟩ rfl hl rfl (Nat.le_of_ble_eq_true rfl) d_AP_weights_47 ?_
          refine lv_astore (lv' := [(6, .ref (wad g (79 + (fr zj0)))), (0, .ref (wad g 0)), (1, .int (nI zj0)), (2, .int (nI zj1)), (3, .int (nI zj2)), (4, .int zp3), (5, .int zp4)]) hx hb d_AP_weights_50 hl (by decide) rfl (fun ls hl => ?_)
          refine lv_aload_n hx hb d_AP_weights_52 rfl (lv_at hl 1 rfl) ?_
          refine gf_AP_27 hc hw d_AP_weights_53 ?_
          refine lv_iload_n hx hb d_AP_weights_56 rfl (lv_at hl 2 rfl) ?_
          refine kRV hc hw lk_AP_131 (As := [.int (nI zj0)]) (rest := []) (c_LE_isAnswered l D g _ pc cn fr to hv dy an af hI hL (zj0) (by omega)) (rc_LE hw) ⟨Nat.le_of_ble_eq_true rfl, Nat.le_of_ble_eq_true rfl⟩ ⟨Nat.le_refl _, Nat.le_refl _⟩ rfl hl rfl (Nat.le_of_ble_eq_true rfl) d_AP_weights_57 ?_
          refine b_if_eq (tgt := 68) hc d_AP_weights_60 (by decide) (fun c_4 => ?_) (fun c_4 => ?_)
          · have zhnn : an zj0 = none := by cases hz : an zj0 with | none => rfl | some z => exact absurd (by rw [hz]; rfl) c_4
            refine lv_bipush (v := (-3)) hx hb d_AP_weights_68 (by decide) ?_
            exact R_i hc hr hlocks (by refine congrArg Value.int ?_; unfold s_weights; (try simp only [inN, rng, zj0_t, zj0_e, zj1_t, zj1_e, zj2_t, zj2_e]); (repeat' split) <;> first | (exfalso; omega) | contradiction | rfl) d_AP_weights_70
          · have zhsm : ¬ an zj0 = none := fun q => by rw [q] at c_4; exact absurd c_4 (by decide)
            refine lv_aload hx hb d_AP_weights_63 (lv_at hl 0 rfl) ?_
            refine lv_ifnonnull (tgt := 71) hx hb d_AP_weights_65 (by decide) ?_
            refine lv_iconst (v := nI 0) hx hb d_AP_weights_71 (by decide) ?_
            refine lv_istore (lv' := [(7, .int (nI 0)), (6, .ref (wad g (79 + (fr zj0)))), (0, .ref (wad g 0)), (1, .int (nI zj0)), (2, .int (nI zj1)), (3, .int (nI zj2)), (4, .int zp3), (5, .int zp4)]) hx hb d_AP_weights_72 hl (by decide) rfl (fun ls hl => ?_)
            refine lv_iconst (v := nI 1) hx hb d_AP_weights_74 (by decide) ?_
            refine lv_istore (lv' := [(8, .int (nI 1)), (7, .int (nI 0)), (6, .ref (wad g (79 + (fr zj0)))), (0, .ref (wad g 0)), (1, .int (nI zj0)), (2, .int (nI zj1)), (3, .int (nI zj2)), (4, .int zp3), (5, .int zp4)]) hx hb d_AP_weights_75 hl (by decide) rfl (fun ls hl => ?_)
            have loop_77 : ∀ (n_77 : Nat) (w0 : Nat)  (ls : Array Slot), (99 - w0) < n_77 → (w0 ≤ 99) → (∀ v, v < w0 → (okW (wK g) lw (cn, fr, to, hv, dy, an, af) zj0 zj1 zj2 zp3) (v + 1) = true → (ctN (okW (wK g) lw (cn, fr, to, hv, dy, an, af) zj0 zj1 zj2 zp3) v : Int) ≠ zp4.toInt) → Wd D g F A s.heap s.heap [] s → lv_has ls 9 [(0, .ref (wad g 0)), (1, .int (nI zj0)), (2, .int (nI zj1)), (3, .int (nI zj2)), (4, .int zp3), (5, .int zp4), (6, .ref (wad g (79 + (fr zj0)))), (7, .int (nI (ctN (okW (wK g) lw (cn, fr, to, hv, dy, an, af) zj0 zj1 zj2 zp3) w0))), (8, .int (nI (w0 + 1)))] → W p l e (rmc 3 0 0) s m args below meth c s.heap [] 0 0 (MQ below (k2_QcV (.int (s_weights (wK g) (pc, lf) lw (cn, fr, to, hv, dy, an, af) (nI zj0) (nI zj1) (nI zj2) zp3 zp4))) args s 0 0 (fun _ => False)) (F0 m 77 ls []) := by
              intro n_77
              induction n_77 with
              | zero => intro w0  ls hm; exact absurd hm (Nat.not_lt_zero _)
              | succ n_77 ih_77 =>
                intro w0  ls hm_77 hw0 zhno hw hl
                have hct := ctN_le (ok := (okW (wK g) lw (cn, fr, to, hv, dy, an, af) zj0 zj1 zj2 zp3)) w0
                refine lv_iload hx hb d_AP_weights_77 (lv_at hl 8 rfl) ?_
                refine lv_bipush (v := nI 99) hx hb d_AP_weights_79 (by decide) ?_
                refine q_icmp_gt (tgt := 129) hc (by omega) (by omega) d_AP_weights_81 (by decide) (fun c_5 => ?_) (fun c_5 => ?_)
                · have hw99 : w0 = 99 := by omega
                  subst hw99
                  refine lv_iload hx hb d_AP_weights_129 (lv_at hl 5 rfl) ?_
                  refine lv_iconst (v := (-1)) hx hb d_AP_weights_131 (by decide) ?_
                  refine u_icmp_ne (tgt := 140) (X := (zp4).toInt) (Y := (-1)) hc (rfl) (by decide) d_AP_weights_132 (by decide) (fun c_6 => ?_) (fun c_6 => ?_)
                  · refine lv_bipush (v := (-9)) hx hb d_AP_weights_140 (by decide) ?_
                    exact R_i hc hr hlocks (by refine congrArg Value.int ?_; unfold s_weights; (try simp only [inN, rng, zj0_t, zj0_e, zj1_t, zj1_e, zj2_t, zj2_e]); (repeat' split) <;> first | (exfalso; omega) | contradiction | (rw [kth_no 99 (fun v hv => zhno v (by omega))]; rfl)) d_AP_weights_142
                  · refine lv_iload hx hb d_AP_weights_135 (lv_at hl 7 rfl) ?_
                    refine lv_goto (tgt := 142) hx hb d_AP_weights_137 (by decide) ?_
                    exact R_i hc hr hlocks (by refine congrArg Value.int ?_; unfold s_weights; (try simp only [inN, rng, zj0_t, zj0_e, zj1_t, zj1_e, zj2_t, zj2_e]); (repeat' split) <;> first | (exfalso; omega) | contradiction | rfl) d_AP_weights_142
                · refine lv_aload_n hx hb d_AP_weights_84 rfl (lv_at hl 0 rfl) ?_
                  refine gf_AP_27 hc hw d_AP_weights_85 ?_
                  refine lv_iload_n hx hb d_AP_weights_88 rfl (lv_at hl 2 rfl) ?_
                  refine lv_iload_n hx hb d_AP_weights_89 rfl (lv_at hl 3 rfl) ?_
                  refine lv_aload_n hx hb d_AP_weights_90 rfl (lv_at hl 0 rfl) ?_
                  refine gf_AP_110 hc hw d_AP_weights_91 (v := .int (nI lw)) (congrArg Value.int (hC.2.1)) ?_
                  refine lv_iload_n hx hb d_AP_weights_94 rfl (lv_at hl 1 rfl) ?_
                  refine lv_aload hx hb d_AP_weights_95 (lv_at hl 6 rfl) ?_
                  refine lv_iload hx hb d_AP_weights_97 (lv_at hl 8 rfl) ?_
                  refine vs_AP_107 hc hw (j := (fr zj0)) (by omega) ((hper (fr zj0) (by omega)).1) (w := w0 + 1) (by omega) ⟨Nat.le_of_ble_eq_true rfl, Nat.le_of_ble_eq_true rfl⟩ ⟨Nat.le_refl _, Nat.le_refl _⟩ hl (Nat.le_of_ble_eq_true rfl) d_AP_weights_99 ?_
                  have hsw := shw_le (k := wK g (fr zj0)) (w := w0 + 1) (by omega)
                  have hpb := pd_leX (g := g) hI lw zj1 zj2 zj0 (shw (wK g (fr zj0)) (w0 + 1)) (by omega)
                  refine kRV hc hw lk_AP_214 (As := [.int (nI zj1), .int (nI zj2), .int (nI lw), .int (nI zj0), .int (nI (shw (wK g ((fr zj0))) (w0 + 1)))]) (rest := []) (c_LE_paidIf_s l D g _ pc cn fr to hv dy an af hI hL lw zj1 zj2 (by omega) hpc6 (by omega) (by omega) zj0 (shw (wK g ((fr zj0))) (w0 + 1)) (by omega) (by omega)) (rc_LE hw) ⟨Nat.le_of_ble_eq_true rfl, Nat.le_of_ble_eq_true rfl⟩ ⟨Nat.le_refl _, Nat.le_refl _⟩ rfl hl rfl (Nat.le_of_ble_eq_true rfl) d_AP_weights_102 ?_
                  refine lv_iload hx hb d_AP_weights_105 (lv_at hl 4 rfl) ?_
                  refine u_icmp_ne (tgt := 123) (X := ((pdS lw zj1 zj2 fr to dy an (fun i => if i = zj0 then shw (wK g ((fr zj0))) (w0 + 1) else lsc g fr hv i) cn : Nat) : Int)) (Y := (zp3).toInt) hc (nI_tI (by omega)) (rfl) d_AP_weights_107 (by decide) (fun c_7 => ?_) (fun c_7 => ?_)
                  · have zhnok : ¬ (okW (wK g) lw (cn, fr, to, hv, dy, an, af) zj0 zj1 zj2 zp3) (w0 + 1) = true := fun q => absurd (of_decide_eq_true q) c_7
                    refine lv_iinc (v := nI ((w0 + 1) + 1)) (lv' := [(8, .int (nI ((w0 + 1) + 1))), (0, .ref (wad g 0)), (1, .int (nI zj0)), (2, .int (nI zj1)), (3, .int (nI zj2)), (4, .int zp3), (5, .int zp4), (6, .ref (wad g (79 + (fr zj0)))), (7, .int (nI (ctN (okW (wK g) lw (cn, fr, to, hv, dy, an, af) zj0 zj1 zj2 zp3) w0)))]) hx hb d_AP_weights_123 hl (k := 8) rfl (nI_inc1 _) (by decide) rfl (fun ls hl => ?_)
                    refine lv_goto (tgt := 77) hx hb d_AP_weights_126 (by decide) ?_
                    have hl : lv_has ls 9 [(8, .int (nI ((w0 + 1) + 1))), (0, .ref (wad g 0)), (1, .int (nI zj0)), (2, .int (nI zj1)), (3, .int (nI zj2)), (4, .int zp3), (5, .int zp4), (6, .ref (wad g (79 + (fr zj0)))), (7, .int (nI (ctN (okW (wK g) lw (cn, fr, to, hv, dy, an, af) zj0 zj1 zj2 zp3) (w0 + 1))))] := by rw [show ctN (okW (wK g) lw (cn, fr, to, hv, dy, an, af) zj0 zj1 zj2 zp3) (w0 + 1) = ctN (okW (wK g) lw (cn, fr, to, hv, dy, an, af) zj0 zj1 zj2 zp3) w0 from by (show ctN (okW (wK g) lw (cn, fr, to, hv, dy, an, af) zj0 zj1 zj2 zp3) w0 + (if (okW (wK g) lw (cn, fr, to, hv, dy, an, af) zj0 zj1 zj2 zp3) (w0 + 1) then 1 else 0) = _; first | rw [if_pos zhok1] | (rw [if_neg zhnok]; rfl))]; exact hl
                    exact ih_77 (w0 + 1) _ (by omega) (by omega) (fun v hv hok => by rcases (show v < w0 ∨ v = w0 by omega) with q | q; exact zhno v q hok; subst q; first | (intro e; omega) | (exact absurd hok zhnok)) hw (lv_sub hl [1, 2, 3, 4, 5, 6, 7, 8, 0] rfl)
                  · have zhok1 : (okW (wK g) lw (cn, fr, to, hv, dy, an, af) zj0 zj1 zj2 zp3) (w0 + 1) = true := decide_eq_true c_7
                    refine lv_iload hx hb d_AP_weights_110 (lv_at hl 7 rfl) ?_
                    refine lv_iload hx hb d_AP_weights_112 (lv_at hl 5 rfl) ?_
                    refine u_icmp_ne (tgt := 120) (X := ((ctN (okW (wK g) lw (cn, fr, to, hv, dy, an, af) zj0 zj1 zj2 zp3) w0 : Nat) : Int)) (Y := (zp4).toInt) hc (nI_tI (by omega)) (rfl) d_AP_weights_114 (by decide) (fun c_8 => ?_) (fun c_8 => ?_)
                    · refine lv_iinc (v := nI ((ctN (okW (wK g) lw (cn, fr, to, hv, dy, an, af) zj0 zj1 zj2 zp3) w0) + 1)) (lv' := [(7, .int (nI ((ctN (okW (wK g) lw (cn, fr, to, hv, dy, an, af) zj0 zj1 zj2 zp3) w0) + 1))), (0, .ref (wad g 0)), (1, .int (nI zj0)), (2, .int (nI zj1)), (3, .int (nI zj2)), (4, .int zp3), (5, .int zp4), (6, .ref (wad g (79 + (fr zj0)))), (8, .int (nI (w0 + 1)))]) hx hb d_AP_weights_120 hl (k := 7) rfl (nI_inc1 _) (by decide) rfl (fun ls hl => ?_)
                      refine lv_iinc (v := nI ((w0 + 1) + 1)) (lv' := [(8, .int (nI ((w0 + 1) + 1))), (7, .int (nI ((ctN (okW (wK g) lw (cn, fr, to, hv, dy, an, af) zj0 zj1 zj2 zp3) w0) + 1))), (0, .ref (wad g 0)), (1, .int (nI zj0)), (2, .int (nI zj1)), (3, .int (nI zj2)), (4, .int zp3), (5, .int zp4), (6, .ref (wad g (79 + (fr zj0))))]) hx hb d_AP_weights_123 hl (k := 8) rfl (nI_inc1 _) (by decide) rfl (fun ls hl => ?_)
                      refine lv_goto (tgt := 77) hx hb d_AP_weights_126 (by decide) ?_
                      have hl : lv_has ls 9 [(8, .int (nI ((w0 + 1) + 1))), (7, .int (nI (ctN (okW (wK g) lw (cn, fr, to, hv, dy, an, af) zj0 zj1 zj2 zp3) (w0 + 1)))), (0, .ref (wad g 0)), (1, .int (nI zj0)), (2, .int (nI zj1)), (3, .int (nI zj2)), (4, .int zp3), (5, .int zp4), (6, .ref (wad g (79 + (fr zj0))))] := by rw [show ctN (okW (wK g) lw (cn, fr, to, hv, dy, an, af) zj0 zj1 zj2 zp3) (w0 + 1) = (ctN (okW (wK g) lw (cn, fr, to, hv, dy, an, af) zj0 zj1 zj2 zp3) w0) + 1 from by (show ctN (okW (wK g) lw (cn, fr, to, hv, dy, an, af) zj0 zj1 zj2 zp3) w0 + (if (okW (wK g) lw (cn, fr, to, hv, dy, an, af) zj0 zj1 zj2 zp3) (w0 + 1) then 1 else 0) = _; first | rw [if_pos zhok1] | (rw [if_neg zhnok]; rfl))]; exact hl
                      exact ih_77 (w0 + 1) _ (by omega) (by omega) (fun v hv hok => by rcases (show v < w0 ∨ v = w0 by omega) with q | q; exact zhno v q hok; subst q; first | (intro e; omega) | (exact absurd hok zhnok)) hw (lv_sub hl [2, 3, 4, 5, 6, 7, 8, 1, 0] rfl)
                    · refine lv_iload hx hb d_AP_weights_117 (lv_at hl 8 rfl) ?_
                      exact R_i hc hr hlocks (by refine congrArg Value.int ?_; unfold s_weights; (try simp only [inN, rng, zj0_t, zj0_e, zj1_t, zj1_e, zj2_t, zj2_e]); (repeat' split) <;> first | (exfalso; omega) | contradiction | (rw [kth_of zhok1 (by omega) 99 (by omega)]; rfl)) d_AP_weights_119
            have hl : lv_has ls 9 [(8, .int (nI 1)), (7, .int (nI (ctN (okW (wK g) lw (cn, fr, to, hv, dy, an, af) zj0 zj1 zj2 zp3) 0))), (6, .ref (wad g (79 + (fr zj0)))), (0, .ref (wad g 0)), (1, .int (nI zj0)), (2, .int (nI zj1)), (3, .int (nI zj2)), (4, .int zp3), (5, .int zp4)] := by rw [show ctN (okW (wK g) lw (cn, fr, to, hv, dy, an, af) zj0 zj1 zj2 zp3) 0 = 0 from by rfl]; exact hl
            have hl : lv_has ls 9 [(8, .int (nI (0 + 1))), (7, .int (nI (ctN (okW (wK g) lw (cn, fr, to, hv, dy, an, af) zj0 zj1 zj2 zp3) 0))), (6, .ref (wad g (79 + (fr zj0)))), (0, .ref (wad g 0)), (1, .int (nI zj0)), (2, .int (nI zj1)), (3, .int (nI zj2)), (4, .int zp3), (5, .int zp4)] := by rw [show 0 + 1 = 1 from by rfl]; exact hl
            exact loop_77 _ 0 _ (Nat.lt_succ_self _) (by omega) (fun v hv => absurd hv (Nat.not_lt_zero v)) hw (lv_sub hl [3, 4, 5, 6, 7, 8, 2, 1, 0] rfl)
        · try unfold rng at c_3
          refine lv_bipush (v := (-2)) hx hb d_AP_weights_34 (by decide) ?_
          exact R_i hc hr hlocks (by refine congrArg Value.int ?_; unfold s_weights; (try simp only [inN, rng, zj0_t, zj0_e, zj1_t, zj1_e]); (repeat' split) <;> first | (exfalso; omega) | contradiction | rfl) d_AP_weights_36
      · refine lv_iconst (v := (-1)) hx hb d_AP_weights_25 (by decide) ?_
        exact R_i hc hr hlocks (by refine congrArg Value.int ?_; unfold s_weights; (try simp only [inN, rng, zj0_t, zj0_e, zj1_t, zj1_e]); (repeat' split) <;> first | (exfalso; omega) | contradiction | rfl) d_AP_weights_26
    · refine kRV hc hw lk_AP_96 (As := [.int zp1]) (rest := []) (c_AP_personAt_n l D g _ pc (hPC.1) hpc6 zp1 zhq1) (rc_AP hw) ⟨Nat.le_of_ble_eq_true rfl, Nat.le_of_ble_eq_true rfl⟩ ⟨Nat.le_refl _, Nat.le_refl _⟩ rfl hl rfl (Nat.le_of_ble_eq_true rfl) d_AP_weights_13 ?_
      unfold inN at zhq1
      refine lv_ifnullN (tgt := 25) hx hb d_AP_weights_16 (by decide) ?_
      refine lv_iconst (v := (-1)) hx hb d_AP_weights_25 (by decide) ?_
      exact R_i hc hr hlocks (by refine congrArg Value.int ?_; unfold s_weights; (try simp only [inN, rng, zj0_t, zj0_e]); (repeat' split) <;> first | (exfalso; omega) | contradiction | rfl) d_AP_weights_26
