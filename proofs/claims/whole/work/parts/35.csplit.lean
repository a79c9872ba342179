/-! printed by wip/gen/meths23.py: the calls of a post, split -/
set_option maxHeartbeats 4000000 in
theorem c_RW_allWithin_c (l : Launch) (D : va_G) (g : wG) (F : wF) (k : Nat) (hk : k < 4) (i n : Nat) (cq : Nat → Int32) (hin : i + n ≤ 40) (hcq : ∀ z, z < n → F (2 * k + 3) (i + z) = cq z) : CR l y_RW_allWithin b_RW_allWithin 6 (Option.some Jvm.ClassFile.FieldType.boolean) 1 D g F [.ref (wad g (2 * k + 2)), .int (nI i), .int (nI n), .int (nI 1), .int (nI 200)] (.int (bI (∀ z, z < n → rng (cq z) 1 200))) := by
  refine CR.start rfl (Nat.le_of_ble_eq_true rfl) ?_
  intro p e s m args below meth c A ls hc hr hlocks hw hl
  have hl : lv_has ls 6 [(0, .ref (wad g (2 * k + 2))), (1, .int (nI i)), (2, .int (nI n)), (3, .int (nI 1)), (4, .int (nI 200))] := hl
  have hx := hc.1
  have hb := hc.2.1
  refine lv_iload_n hx hb d_RW_allWithin_0 rfl (lv_at hl 1 rfl) ?_
  refine lv_istore (lv' := [(5, .int (nI i)), (0, .ref (wad g (2 * k + 2))), (1, .int (nI i)), (2, .int (nI n)), (3, .int (nI 1)), (4, .int (nI 200))]) hx hb d_RW_allWithin_1 hl (by decide) rfl (fun ls hl => ?_)
  have loop_3 : ∀ (n_3 : Nat) (y : Nat)  (ls : Array Slot), (n - y) < n_3 → (y ≤ n) → (∀ z, z < y → rng (cq z) 1 200) → Wd D g F A s.heap s.heap [] s → lv_has ls 6 [(0, .ref (wad g (2 * k + 2))), (1, .int (nI i)), (2, .int (nI n)), (3, .int (nI 1)), (4, .int (nI 200)), (5, .int (nI (i + y)))] → W p l e (rmc 1 0 0) s m args below meth c s.heap [] 0 0 (MQ below (k2_QcV (.int (bI (∀ z, z < n → rng (cq z) 1 200)))) args s 0 0 (fun _ => False)) (F0 m 3 ls []) := by
    intro n_3
    induction n_3 with
    | zero => intro y  ls hm; exact absurd hm (Nat.not_lt_zero _)
    | succ n_3 ih_3 =>
      intro y  ls hm_3 hyn hal hw hl
      refine lv_iload hx hb d_RW_allWithin_3 (lv_at hl 5 rfl) ?_
      refine lv_iload_n hx hb d_RW_allWithin_5 rfl (lv_at hl 1 rfl) ?_
      refine lv_iload_n hx hb d_RW_allWithin_6 rfl (lv_at hl 2 rfl) ?_
      refine q_iadd hc d_RW_allWithin_7 ?_
      refine q_icmp_ge (tgt := 35) hc (by omega) (by omega) d_RW_allWithin_8 (by decide) (fun c_1 => ?_) (fun c_1 => ?_)
      · refine lv_iconst (v := nI 1) hx hb d_RW_allWithin_35 (by decide) ?_
        exact R_z hc hr hlocks (by rw [bI_t (fun z hz => hal z (by omega))]; rfl) rfl d_RW_allWithin_36
      · refine lv_aload_n hx hb d_RW_allWithin_11 rfl (lv_at hl 0 rfl) ?_
        refine gf_RW_9 hc hw (k := k) (hk) d_RW_allWithin_12 ?_
        refine lv_iload hx hb d_RW_allWithin_15 (lv_at hl 5 rfl) ?_
        refine r_iald hc hw (h := 2 * k + 3) (n := 40) (i := i + y) (fun f => wt_cells g (hk) f) (by omega) (by omega) (by decide) d_RW_allWithin_17 (v := .int (cq y)) (congrArg Value.int (hcq y (by omega))) ?_
        refine lv_iload_n hx hb d_RW_allWithin_18 rfl (lv_at hl 3 rfl) ?_
        refine lv_iload hx hb d_RW_allWithin_19 (lv_at hl 4 rfl) ?_
        refine kRN hc hw lk_RW_22 (As := [.int (cq y), .int (nI 1), .int (nI 200)]) (rest := []) (c_AP_isWithin l D g _ (cq y) (nI 1) (nI 200) 1 200 (by decide) (by decide)) ⟨Nat.le_of_ble_eq_true rfl, Nat.le_of_ble_eq_true rfl⟩ ⟨Nat.le_refl _, Nat.le_refl _⟩ rfl hl rfl (Nat.le_of_ble_eq_true rfl) d_RW_allWithin_21 ?_
        refine b_if_ne (tgt := 29) hc d_RW_allWithin_24 (by decide) (fun c_2 => ?_) (fun c_2 => ?_)
        · try unfold rng at c_2
          have hok : rng (cq y) 1 200 := c_2
          refine lv_iinc (v := nI ((i + y) + 1)) (lv' := [(5, .int (nI ((i + y) + 1))), (0, .ref (wad g (2 * k + 2))), (1, .int (nI i)), (2, .int (nI n)), (3, .int (nI 1)), (4, .int (nI 200))]) hx hb d_RW_allWithin_29 hl (k := 5) rfl (nI_inc1 _) (by decide) rfl (fun ls hl => ?_)
          refine lv_goto (tgt := 3) hx hb d_RW_allWithin_32 (by decide) ?_
          have hl : lv_has ls 6 [(5, .int (nI (i + (y + 1)))), (0, .ref (wad g (2 * k + 2))), (1, .int (nI i)), (2, .int (nI n)), (3, .int (nI 1)), (4, .int (nI 200))] := by rw [show i + (y + 1) = (i + y) + 1 from by omega]; exact hl
          exact ih_3 (y + 1) _ (by omega) (by omega) (fun z hz => by rcases (show z < y ∨ z = y by omega) with e9 | e9; exact hal z e9; (rw [e9]; exact hok)) hw (lv_sub hl [1, 2, 3, 4, 5, 0] rfl)
        · try unfold rng at c_2
          have zhnok : ¬ rng (cq y) 1 200 := c_2
          refine lv_iconst (v := nI 0) hx hb d_RW_allWithin_27 (by decide) ?_
          exact R_z hc hr hlocks (by rw [bI_f (fun h9 => zhnok (h9 y (by omega)))]; rfl) rfl d_RW_allWithin_28
  have hl : lv_has ls 6 [(5, .int (nI (i + 0))), (0, .ref (wad g (2 * k + 2))), (1, .int (nI i)), (2, .int (nI n)), (3, .int (nI 1)), (4, .int (nI 200))] := by rw [show i + 0 = i from by omega]; exact hl
  exact loop_3 _ 0 _ (Nat.lt_succ_self _) (by omega) (fun y hy => absurd hy (Nat.not_lt_zero y)) hw (lv_sub hl [1, 2, 3, 4, 5, 0] rfl)
set_option maxHeartbeats 4000000 in
theorem c_AP_split (l : Launch) (D : va_G) (g : wG) (F : wF) (pc : Nat) (lf : Nat → Nat) (lw : Nat) (cn : Nat) (fr to hv dy : Nat → Nat) (an af : Nat → Option Nat) (ln : Nat → Option Nat) (sz : Nat → Nat) (ce : Nat → Nat → Int32) (tr ft : Int32) (hG : GI g (pc, lf) lw (cn, fr, to, hv, dy, an, af) (ln, sz, ce)) (hC : CI g F (pc, lf) lw (cn, fr, to, hv, dy, an, af) (ln, sz, ce) tr ft) (zp0 zp1 zp2 zp3 zp4 zp5 zp6 : Int32) : CW l y_AP_split b_AP_split 11 (Option.some Jvm.ClassFile.FieldType.int) 4 0 0 D g F [.ref (wad g 0), .int zp0, .int zp1, .int zp2, .int zp3, .int zp4, .int zp5, .int zp6] (fun v g2 u => v = some (.int (s_split (wK g) (pc, lf) lw (ln, sz, ce) zp0 zp1 zp2 zp3 zp4 zp5 zp6).1) ∧ g = g2 ∧ CI g u (pc, lf) lw (cn, fr, to, hv, dy, an, af) (ln, sz, ce) tr (s_split (wK g) (pc, lf) lw (ln, sz, ce) zp0 zp1 zp2 zp3 zp4 zp5 zp6).2 ∧ FrO 0 57 F u) := by
  refine CW.start rfl (Nat.le_of_ble_eq_true rfl) ?_
  intro p e s m args below meth c A ls hc hr hlocks hw hl
  have hl : lv_has ls 11 [(0, .ref (wad g 0)), (1, .int zp0), (2, .int zp1), (3, .int zp2), (4, .int zp3), (5, .int zp4), (6, .int zp5), (7, .int zp6)] := hl
  have hx := hc.1
  have hb := hc.2.1
  obtain ⟨hpc6, hpcm, hm6, hpc0, hper⟩ : PI g pc lf := hG.1
  have hlw : lw ≤ 2 := hG.2.1
  have hI : LI pc cn fr to hv dy an af := hG.2.2.1
  have hcn := hI.1
  have hSI : SI ln sz := hG.2.2.2
  have hPC : PC F pc lf := hC.1
  have hL : LC g F cn fr to hv dy an af := hC.2.2.1
  have hSC : SC F ln sz ce := hC.2.2.2.1
  refine lv_aload_n hx hb d_AP_split_0 rfl (lv_at hl 0 rfl) ?_
  refine lv_iconst (v := nI 0) hx hb d_AP_split_1 (by decide) ?_
  refine pf_AP_59 hc hw d_AP_split_2 (fun H locs hw => ?_)
  have hC0 := CI_ft hC (nI 0)
  have hSC0 : SC _ ln sz ce := hC0.2.2.2.1
  refine lv_aload_n hx hb d_AP_split_5 rfl (lv_at hl 0 rfl) ?_
  refine lv_iload_n hx hb d_AP_split_6 rfl (lv_at hl 1 rfl) ?_
  by_cases zhq0 : inN zp0 pc
  · obtain ⟨zj0, rfl, zj0_1⟩ := inN_nat zhq0
    have zj0_e := nI_tI (j := zj0) (by omega)
    have zj0_t := tn_nI (j := zj0) (by omega)
    unfold inN at zhq0
    refine kRV hc hw lk_AP_96 (As := [.int (nI zj0)]) (rest := []) (c_AP_personAt_y l D g _ pc ((u2_i (by decide)).trans (hPC.1)) hpcm hm6 (zj0) (zj0_1)) (rc_AP hw) ⟨Nat.le_of_ble_eq_true rfl, Nat.le_of_ble_eq_true rfl⟩ ⟨Nat.le_refl _, Nat.le_refl _⟩ rfl hl rfl (Nat.le_of_ble_eq_true rfl) d_AP_split_7 ?_
    refine lv_astore (lv' := [(8, .ref (wad g (79 + zj0))), (0, .ref (wad g 0)), (1, .int (nI zj0)), (2, .int zp1), (3, .int zp2), (4, .int zp3), (5, .int zp4), (6, .int zp5), (7, .int zp6)]) hx hb d_AP_split_10 hl (by decide) rfl (fun ls hl => ?_)
    refine lv_aload_n hx hb d_AP_split_12 rfl (lv_at hl 1 rfl) ?_
    refine lv_iload_n hx hb d_AP_split_13 rfl (lv_at hl 4 rfl) ?_
    by_cases zhs2 : rng zp2 0 3
    · obtain ⟨zj2, rfl, zj2_1, zj2_2⟩ := rng_nat zhs2 (by decide)
      have zj2_e := nI_tI (j := zj2) (by omega)
      have zj2_t := tn_nI (j := zj2) (by omega)
      unfold rng at zhs2
      have zj2_4 : zj2 < 4 := by omega
      refine kRV hc hw lk_AP_63 (As := [.int (nI zj2)]) (rest := []) (c_AP_sheetAt_y l D g _ zj2 zj2_4) (rc_AP hw) ⟨Nat.le_of_ble_eq_true rfl, Nat.le_of_ble_eq_true rfl⟩ ⟨Nat.le_refl _, Nat.le_refl _⟩ rfl hl rfl (Nat.le_of_ble_eq_true rfl) d_AP_split_14 ?_
      refine lv_astore (lv' := [(9, .ref (wad g (2 * zj2 + 2))), (8, .ref (wad g (79 + zj0))), (0, .ref (wad g 0)), (1, .int (nI zj0)), (2, .int zp1), (3, .int (nI zj2)), (4, .int zp3), (5, .int zp4), (6, .int zp5), (7, .int zp6)]) hx hb d_AP_split_17 hl (by decide) rfl (fun ls hl => ?_)
      refine lv_aload hx hb d_AP_split_19 (lv_at hl 1 rfl) ?_
      refine lv_ifnull hx hb d_AP_split_21 ?_
      refine lv_aload hx hb d_AP_split_24 (lv_at hl 0 rfl) ?_
      refine lv_ifnonnull (tgt := 31) hx hb d_AP_split_26 (by decide) ?_
      refine lv_iload hx hb d_AP_split_31 (lv_at hl 6 rfl) ?_
      refine lv_iconst (v := nI 0) hx hb d_AP_split_33 (by decide) ?_
      refine lv_iconst (v := nI 2) hx hb d_AP_split_34 (by decide) ?_
      refine kRS hc hw lk_AP_67 (As := [.int zp3, .int (nI 0), .int (nI 2)]) (rest := []) (c_AP_isWithin l D g _ (zp3) (nI 0) (nI 2) 0 2 (by decide) (by decide)) ⟨Nat.le_of_ble_eq_true rfl, Nat.le_of_ble_eq_true rfl⟩ ⟨Nat.le_refl _, Nat.le_refl _⟩ rfl hl rfl (Nat.le_of_ble_eq_true rfl) d_AP_split_35 ?_
      refine b_if_eq (tgt := 51) hc d_AP_split_38 (by decide) (fun c_1 => ?_) (fun c_1 => ?_)
      · try unfold rng at c_1
        refine lv_bipush (v := (-2)) hx hb d_AP_split_51 (by decide) ?_
        exact W_i hc hw hr hlocks (by rw [s_split_2 (by simp only [inN, rng]; omega) (by simp only [inN, rng]; omega)]; exact ⟨rfl, rfl, hC0, (by repeat (first | exact FrO.rf _ _ _ | refine FrO.up ?_ (by omega) (by omega)))⟩) d_AP_split_53
      · obtain ⟨zj3, rfl, zj3_1, zj3_2⟩ := rng_nat c_1 (by decide)
        have zj3_e := nI_tI (j := zj3) (by omega)
        have zj3_t := tn_nI (j := zj3) (by omega)
        try unfold rng at c_1
        refine lv_iload_n hx hb d_AP_split_41 rfl (lv_at hl 4 rfl) ?_
        refine lv_iconst (v := nI 1) hx hb d_AP_split_42 (by decide) ?_
        refine lv_bipush (v := nI 99) hx hb d_AP_split_43 (by decide) ?_
        refine kRS hc hw lk_AP_67 (As := [.int zp1, .int (nI 1), .int (nI 99)]) (rest := []) (c_AP_isWithin l D g _ (zp1) (nI 1) (nI 99) 1 99 (by decide) (by decide)) ⟨Nat.le_of_ble_eq_true rfl, Nat.le_of_ble_eq_true rfl⟩ ⟨Nat.le_refl _, Nat.le_refl _⟩ rfl hl rfl (Nat.le_of_ble_eq_true rfl) d_AP_split_45 ?_
        refine b_if_ne (tgt := 54) hc d_AP_split_48 (by decide) (fun c_2 => ?_) (fun c_2 => ?_)
        · obtain ⟨zj1, rfl, zj1_1, zj1_2⟩ := rng_nat c_2 (by decide)
          have zj1_e := nI_tI (j := zj1) (by omega)
          have zj1_t := tn_nI (j := zj1) (by omega)
          try unfold rng at c_2
          refine lv_aload hx hb d_AP_split_54 (lv_at hl 0 rfl) ?_
          refine lv_iload hx hb d_AP_split_56 (lv_at hl 6 rfl) ?_
          refine lv_iload hx hb d_AP_split_58 (lv_at hl 7 rfl) ?_
          refine lv_iload hx hb d_AP_split_60 (lv_at hl 8 rfl) ?_
          refine kRV hc hw lk_AP_71 (As := [.int (nI zj3), .int zp4, .int zp5]) (rest := []) (c_RW_faultOfCells l D g _ zj2 zj2_4 (ln zj2) (hSI zj2 zj2_4).2 ((u2_h (by omega)).trans ((hSC zj2 zj2_4).1)) (sz zj2) (hSI zj2 zj2_4).1 ((u2_h (by omega)).trans ((hSC zj2 zj2_4).2.1)) (nI zj3) (zp4) (zp5)) (rc_RW hw (zj2_4)) ⟨Nat.le_of_ble_eq_true rfl, Nat.le_of_ble_eq_true rfl⟩ ⟨Nat.le_refl _, Nat.le_refl _⟩ rfl hl rfl (Nat.le_of_ble_eq_true rfl) d_AP_split_62 ?_
          refine lv_istore (lv' := [(10, .int (nI (flt (ln zj2) (sz zj2) (nI zj3) zp4 zp5))), (9, .ref (wad g (2 * zj2 + 2))), (8, .ref (wad g (79 + zj0))), (0, .ref (wad g 0)), (1, .int (nI zj0)), (2, .int (nI zj1)), (3, .int (nI zj2)), (4, .int (nI zj3)), (5, .int zp4), (6, .int zp5), (7, .int zp6)]) hx hb d_AP_split_65 hl (by decide) rfl (fun ls hl => ?_)
          refine lv_iload hx hb d_AP_split_67 (lv_at hl 0 rfl) ?_
          refine q_if_eq (tgt := 79) hc (Nat.lt_of_le_of_lt (flt_le _ _ _ _ _) (by decide)) d_AP_split_69 (by decide) (fun c_3 => ?_) (fun c_3 => ?_)
          · have hfl := c_3
            obtain ⟨hz1, hz2⟩ := flt_ok hfl
            have hsz := (hSI zj2 zj2_4).1
            obtain ⟨zj4, rfl, zj4_1, zj4_2⟩ := rng_nat (x := zp4) (a := 0) (b := (sz zj2 : Int)) hz1 (by decide)
            have zj4_e := nI_tI (j := zj4) (by omega)
            have zj4_t := tn_nI (j := zj4) (by omega)
            rw [zj4_e] at hz2
            obtain ⟨zj5, rfl, zj5_1, zj5_2⟩ := rng_nat (x := zp5) (a := 0) (b := ((sz zj2 : Int) - (zj4 : Int))) hz2 (by decide)
            have zj5_e := nI_tI (j := zj5) (by omega)
            have zj5_t := tn_nI (j := zj5) (by omega)
            refine lv_iload hx hb d_AP_split_79 (lv_at hl 9 rfl) ?_
            refine lv_iconst (v := nI 1) hx hb d_AP_split_81 (by decide) ?_
            refine lv_bipush (v := nI 6) hx hb d_AP_split_82 (by decide) ?_
            refine kRS hc hw lk_AP_67 (As := [.int (nI zj5), .int (nI 1), .int (nI 6)]) (rest := []) (c_AP_isWithin l D g _ (nI zj5) (nI 1) (nI 6) 1 6 (by decide) (by decide)) ⟨Nat.le_of_ble_eq_true rfl, Nat.le_of_ble_eq_true rfl⟩ ⟨Nat.le_refl _, Nat.le_refl _⟩ rfl hl rfl (Nat.le_of_ble_eq_true rfl) d_AP_split_84 ?_
            refine b_if_eq (tgt := 112) hc d_AP_split_87 (by decide) (fun c_4 => ?_) (fun c_4 => ?_)
            · try unfold rng at c_4
              refine lv_bipush (v := (-2)) hx hb d_AP_split_112 (by decide) ?_
              exact W_i hc hw hr hlocks (by rw [s_split_4 (by simp only [inN, rng]; omega) (by simp only [inN, rng]; omega) (by rw [zj2_t]; exact hfl) (fun h9 => by have h8 := h9.1; simp only [inN, rng] at h8; omega)]; exact ⟨rfl, rfl, hC0, (by repeat (first | exact FrO.rf _ _ _ | refine FrO.up ?_ (by omega) (by omega)))⟩) d_AP_split_114
            · try unfold rng at c_4
              refine lv_iload hx hb d_AP_split_90 (lv_at hl 9 rfl) ?_
              refine lv_iload_n hx hb d_AP_split_92 rfl (lv_at hl 5 rfl) ?_
              refine q_icmp_gt (tgt := 112) hc (by omega) (by omega) d_AP_split_93 (by decide) (fun c_5 => ?_) (fun c_5 => ?_)
              · refine lv_bipush (v := (-2)) hx hb d_AP_split_112 (by decide) ?_
                exact W_i hc hw hr hlocks (by rw [s_split_4 (by simp only [inN, rng]; omega) (by simp only [inN, rng]; omega) (by rw [zj2_t]; exact hfl) (fun h9 => by have h8 := h9.1; simp only [inN, rng] at h8; omega)]; exact ⟨rfl, rfl, hC0, (by repeat (first | exact FrO.rf _ _ _ | refine FrO.up ?_ (by omega) (by omega)))⟩) d_AP_split_114
              · refine lv_aload hx hb d_AP_split_96 (lv_at hl 1 rfl) ?_
                refine lv_iload hx hb d_AP_split_98 (lv_at hl 8 rfl) ?_
                refine lv_iload hx hb d_AP_split_100 (lv_at hl 9 rfl) ?_
                refine lv_iconst (v := nI 1) hx hb d_AP_split_102 (by decide) ?_
                refine lv_sipush (v := nI 200) hx hb d_AP_split_103 (by decide) ?_
                refine kRV hc hw lk_AP_202 (As := [.int (nI zj4), .int (nI zj5), .int (nI 1), .int (nI 200)]) (rest := []) (c_RW_allWithin_c l D g _ zj2 zj2_4 (zj4) (zj5) (fun z => ce zj2 (zj4 + z)) (by omega) (fun z hz => (hSC0 zj2 zj2_4).2.2 (zj4 + z) (by omega))) (rc_RW hw (zj2_4)) ⟨Nat.le_of_ble_eq_true rfl, Nat.le_of_ble_eq_true rfl⟩ ⟨Nat.le_refl _, Nat.le_refl _⟩ rfl hl rfl (Nat.le_of_ble_eq_true rfl) d_AP_split_106 ?_
                refine b_if_ne (tgt := 115) hc d_AP_split_109 (by decide) (fun c_6 => ?_) (fun c_6 => ?_)
                · have hall := c_6
                  refine lv_iload hx hb d_AP_split_115 (lv_at hl 10 rfl) ?_
                  refine lv_iconst (v := (-1)) hx hb d_AP_split_117 (by decide) ?_
                  refine lv_iload hx hb d_AP_split_118 (lv_at hl 9 rfl) ?_
                  refine lv_iconst (v := nI 1) hx hb d_AP_split_120 (by decide) ?_
                  refine q_isub hc (by omega) d_AP_split_121 ?_
                  refine kRS hc hw lk_AP_67 (As := [.int zp6, .int ((-1)), .int (nI (zj5 - 1))]) (rest := []) (c_AP_isWithin l D g _ (zp6) ((-1)) (nI (zj5 - 1)) (-1) ((zj5 - 1 : Nat) : Int) (by decide) (nI_tI (by omega))) ⟨Nat.le_of_ble_eq_true rfl, Nat.le_of_ble_eq_true rfl⟩ ⟨Nat.le_refl _, Nat.le_refl _⟩ rfl hl rfl (Nat.le_of_ble_eq_true rfl) d_AP_split_122 ?_
                  refine b_if_ne (tgt := 130) hc d_AP_split_125 (by decide) (fun c_7 => ?_) (fun c_7 => ?_)
                  · try unfold rng at c_7
                    refine lv_aload_n hx hb d_AP_split_130 rfl (lv_at hl 3 rfl) ?_
                    refine gf_AP_48 hc hw d_AP_split_131 ?_
                    refine lv_aload hx hb d_AP_split_134 (lv_at hl 2 rfl) ?_
                    refine lv_iload_n hx hb d_AP_split_136 rfl (lv_at hl 5 rfl) ?_
                    refine lv_aload hx hb d_AP_split_137 (lv_at hl 1 rfl) ?_
                    refine gf_AP_79 hc hw (k := zj2) (zj2_4) d_AP_split_139 ?_
                    refine lv_iload hx hb d_AP_split_142 (lv_at hl 8 rfl) ?_
                    refine lv_iload hx hb d_AP_split_144 (lv_at hl 9 rfl) ?_
                    refine lv_aload_n hx hb d_AP_split_146 rfl (lv_at hl 3 rfl) ?_
                    refine gf_AP_110 hc hw d_AP_split_147 (v := .int (nI lw)) (congrArg Value.int ((u2_i (by decide)).trans (hC.2.1))) ?_
                    have han : ∀ k, k < zj5 → (fun k => tn (ce zj2 (zj4 + k))) k ≤ 200 ∧ (u2 F 0 9 (nI 0)) (2 * zj2 + 3) (zj4 + k) = nI ((fun k => tn (ce zj2 (zj4 + k))) k) := fun k hk => ⟨(rng_tn (hall k hk)).2, ((hSC0 zj2 zj2_4).2.2 (zj4 + k) (by omega)).trans (rng_tn (hall k hk)).1.symm⟩
                    refine kWV hc hw lk_AP_206 (h := 44) (As := [.ref (wad g (79 + zj0)), .int (nI zj1), .ref (wad g (2 * zj2 + 3)), .int (nI zj4), .int (nI zj5), .int (nI lw)]) (rest := []) (c_PA_part l D g _ zj0 zj1 zj2 zj4 zj5 lw (fun k => tn (ce zj2 (zj4 + k))) (by omega) (hper zj0 (by omega)).1 zj2_4 (by omega) (by omega) (by omega) (by omega) hlw (by omega) han) (rc_PA hw) ⟨Nat.le_of_ble_eq_true rfl, Nat.le_of_ble_eq_true rfl⟩ ⟨Nat.le_refl _, Nat.le_refl _⟩ rfl hl rfl (Nat.le_of_ble_eq_true rfl) d_AP_split_150 (fun v_8 g_9 F_10 H locs zhp_11 hw => ?_)
                    obtain ⟨rfl, rfl, hy1, hy2, hy3⟩ := zhp_11
                    refine lv_iload hx hb d_AP_split_153 (lv_at hl 10 rfl) ?_
                    refine lv_iconst (v := (-1)) hx hb d_AP_split_155 (by decide) ?_
                    refine u_icmp_ne (tgt := 169) (X := (zp6).toInt) (Y := (-1)) hc (rfl) (by decide) d_AP_split_156 (by decide) (fun c_12 => ?_) (fun c_12 => ?_)
                    · obtain ⟨zj6, rfl, zj6_1, zj6_2⟩ := rng_nat (x := zp6) (a := 0) (b := ((zj5 - 1 : Nat) : Int)) ⟨by omega, by omega⟩ (by decide)
                      have zj6_e := nI_tI (j := zj6) (by omega)
                      have zj6_t := tn_nI (j := zj6) (by omega)
                      refine lv_aload_n hx hb d_AP_split_169 rfl (lv_at hl 3 rfl) ?_
                      refine gf_AP_48 hc hw d_AP_split_170 ?_
                      refine gf_AP_213 hc hw d_AP_split_173 ?_
                      refine lv_iload hx hb d_AP_split_176 (lv_at hl 10 rfl) ?_
                      refine r_iald hc hw (h := 56) (n := 6) (i := zj6) (fun _ => rfl) (by omega) (by omega) (by decide) d_AP_split_178 (v := .int (nI (spX (spp (wK g) lw zj0 (fun k => tn (ce zj2 (zj4 + k)))) zj5 zj1 zj6))) (congrArg Value.int (hy2 zj6 (by omega))) ?_
                      exact W_i hc hw hr hlocks (by rw [s_split_7 (by simp only [inN, rng]; omega) (by simp only [inN, rng]; omega) (by rw [zj2_t]; exact hfl) (by simp only [inN, rng, zj2_t, zj4_t, zj5_t]; exact ⟨by omega, fun z hz => hall z hz⟩) (by rw [zj5_t]; simp only [rng]; omega) (by omega)]; refine ⟨congrArg (fun z => some (Value.int (nI z))) ?_, rfl, CI_x hC0 (fun h hh => funext fun i => hy3 h i (by omega)) ((hy3 21 0 (by decide)).trans hC0.2.2.2.2.2.2.1) ((hy3 22 0 (by decide)).trans hC0.2.2.2.2.2.2.2), (fun h hh => funext fun i => (hy3 h i (by omega)).trans (u2_ij2 (by omega)))⟩; rw [zj0_t, zj1_t, zj5_t, zj6_t]; exact congrArg (fun q => spX (spp (wK g) lw zj0 q) zj5 zj1 zj6) (funext fun z => by show _ = tn (ce (tn (nI zj2)) (tn (nI zj4) + z)); rw [zj2_t, zj4_t])) d_AP_split_179
                    · refine lv_aload_n hx hb d_AP_split_159 rfl (lv_at hl 3 rfl) ?_
                      refine gf_AP_48 hc hw d_AP_split_160 ?_
                      refine gf_AP_210 hc hw d_AP_split_163 (v := .int (nI (lO (spp (wK g) lw zj0 (fun k => tn (ce zj2 (zj4 + k)))) zj5 zj5 zj1))) (congrArg Value.int (hy1)) ?_
                      refine lv_goto (tgt := 179) hx hb d_AP_split_166 (by decide) ?_
                      exact W_i hc hw hr hlocks (by rw [s_split_6 (by simp only [inN, rng]; omega) (by simp only [inN, rng]; omega) (by rw [zj2_t]; exact hfl) (by simp only [inN, rng, zj2_t, zj4_t, zj5_t]; exact ⟨by omega, fun z hz => hall z hz⟩) (by rw [zj5_t]; simp only [rng]; omega) (by omega)]; refine ⟨congrArg (fun z => some (Value.int (nI z))) ?_, rfl, CI_x hC0 (fun h hh => funext fun i => hy3 h i (by omega)) ((hy3 21 0 (by decide)).trans hC0.2.2.2.2.2.2.1) ((hy3 22 0 (by decide)).trans hC0.2.2.2.2.2.2.2), (fun h hh => funext fun i => (hy3 h i (by omega)).trans (u2_ij2 (by omega)))⟩; rw [zj0_t, zj1_t, zj5_t]; exact congrArg (fun q => lO (spp (wK g) lw zj0 q) zj5 zj5 zj1) (funext fun z => by show _ = tn (ce (tn (nI zj2)) (tn (nI zj4) + z)); rw [zj2_t, zj4_t])) d_AP_split_179
                  · try unfold rng at c_7
                    refine lv_iconst (v := (-1)) hx hb d_AP_split_128 (by decide) ?_
                    exact W_i hc hw hr hlocks (by rw [s_split_5 (by simp only [inN, rng]; omega) (by simp only [inN, rng]; omega) (by rw [zj2_t]; exact hfl) (by simp only [inN, rng, zj2_t, zj4_t, zj5_t]; exact ⟨by omega, fun z hz => hall z hz⟩) (by rw [zj5_t]; simp only [rng]; omega)]; exact ⟨rfl, rfl, hC0, (by repeat (first | exact FrO.rf _ _ _ | refine FrO.up ?_ (by omega) (by omega)))⟩) d_AP_split_129
                · have hnall := c_6
                  refine lv_bipush (v := (-2)) hx hb d_AP_split_112 (by decide) ?_
                  exact W_i hc hw hr hlocks (by rw [s_split_4 (by simp only [inN, rng]; omega) (by simp only [inN, rng]; omega) (by rw [zj2_t]; exact hfl) (fun h9 => hnall (fun z hz => by have h8 := h9.2 z (by rw [zj5_t]; exact hz); rw [zj2_t, zj4_t] at h8; exact h8))]; exact ⟨rfl, rfl, hC0, (by repeat (first | exact FrO.rf _ _ _ | refine FrO.up ?_ (by omega) (by omega)))⟩) d_AP_split_114
          · have hfl := c_3
            refine lv_aload_n hx hb d_AP_split_72 rfl (lv_at hl 3 rfl) ?_
            refine lv_iload hx hb d_AP_split_73 (lv_at hl 0 rfl) ?_
            refine kWV hc hw lk_AP_75 (h := 0) (As := [.int (nI (flt (ln zj2) (sz zj2) (nI zj3) zp4 zp5))]) (rest := []) (c_AP_faulted l D g _ (flt (ln zj2) (sz zj2) (nI zj3) zp4 zp5)) (rc_AP hw) ⟨Nat.le_of_ble_eq_true rfl, Nat.le_of_ble_eq_true rfl⟩ ⟨Nat.le_refl _, Nat.le_refl _⟩ rfl hl rfl (Nat.le_of_ble_eq_true rfl) d_AP_split_75 (fun v_13 g_14 F_15 H locs zhp_16 hw => ?_)
            obtain ⟨rfl, rfl, rfl⟩ := zhp_16
            exact W_i hc hw hr hlocks (by rw [s_split_3 (f := (flt (ln zj2) (sz zj2) (nI zj3) zp4 zp5)) (by simp only [inN, rng]; omega) (by simp only [inN, rng]; omega) (by rw [zj2_t]) hfl]; exact ⟨rfl, rfl, CI_ft hC0 _, (by repeat (first | exact FrO.rf _ _ _ | refine FrO.up ?_ (by omega) (by omega)))⟩) d_AP_split_78
        · try unfold rng at c_2
          refine lv_bipush (v := (-2)) hx hb d_AP_split_51 (by decide) ?_
          exact W_i hc hw hr hlocks (by rw [s_split_2 (by simp only [inN, rng]; omega) (by simp only [inN, rng]; omega)]; exact ⟨rfl, rfl, hC0, (by repeat (first | exact FrO.rf _ _ _ | refine FrO.up ?_ (by omega) (by omega)))⟩) d_AP_split_53
    · refine kRV hc hw lk_AP_63 (As := [.int zp2]) (rest := []) (c_AP_sheetAt_n l D g _ zp2 zhs2) (rc_AP hw) ⟨Nat.le_of_ble_eq_true rfl, Nat.le_of_ble_eq_true rfl⟩ ⟨Nat.le_refl _, Nat.le_refl _⟩ rfl hl rfl (Nat.le_of_ble_eq_true rfl) d_AP_split_14 ?_
      unfold rng at zhs2
      refine lv_astoreN (lv' := [(9, .null), (8, .ref (wad g (79 + zj0))), (0, .ref (wad g 0)), (1, .int (nI zj0)), (2, .int zp1), (3, .int zp2), (4, .int zp3), (5, .int zp4), (6, .int zp5), (7, .int zp6)]) hx hb d_AP_split_17 hl (by decide) rfl (fun ls hl => ?_)
      refine lv_aload hx hb d_AP_split_19 (lv_at hl 1 rfl) ?_
      refine lv_ifnull hx hb d_AP_split_21 ?_
      refine lv_aloadN hx hb d_AP_split_24 (lv_at hl 0 rfl) ?_
      refine lv_ifnonnullN hx hb d_AP_split_26 ?_
      refine lv_iconst (v := (-1)) hx hb d_AP_split_29 (by decide) ?_
      exact W_i hc hw hr hlocks (by rw [s_split_1 (by simp only [inN, rng]; omega)]; exact ⟨rfl, rfl, hC0, (by repeat (first | exact FrO.rf _ _ _ | refine FrO.up ?_ (by omega) (by omega)))⟩) d_AP_split_30
  · refine kRV hc hw lk_AP_96 (As := [.int zp0]) (rest := []) (c_AP_personAt_n l D g _ pc ((u2_i (by decide)).trans (hPC.1)) hpc6 zp0 zhq0) (rc_AP hw) ⟨Nat.le_of_ble_eq_true rfl, Nat.le_of_ble_eq_true rfl⟩ ⟨Nat.le_refl _, Nat.le_refl _⟩ rfl hl rfl (Nat.le_of_ble_eq_true rfl) d_AP_split_7 ?_
    unfold inN at zhq0
    refine lv_astoreN (lv' := [(8, .null), (0, .ref (wad g 0)), (1, .int zp0), (2, .int zp1), (3, .int zp2), (4, .int zp3), (5, .int zp4), (6, .int zp5), (7, .int zp6)]) hx hb d_AP_split_10 hl (by decide) rfl (fun ls hl => ?_)
    refine lv_aload_n hx hb d_AP_split_12 rfl (lv_at hl 1 rfl) ?_
    refine lv_iload_n hx hb d_AP_split_13 rfl (lv_at hl 4 rfl) ?_
    by_cases zhs2 : rng zp2 0 3
    · obtain ⟨zj2, rfl, zj2_1, zj2_2⟩ := rng_nat zhs2 (by decide)
      have zj2_e := nI_tI (j := zj2) (by omega)
      have zj2_t := tn_nI (j := zj2) (by omega)
      unfold rng at zhs2
      have zj2_4 : zj2 < 4 := by omega
      refine kRV hc hw lk_AP_63 (As := [.int (nI zj2)]) (rest := []) (c_AP_sheetAt_y l D g _ zj2 zj2_4) (rc_AP hw) ⟨Nat.le_of_ble_eq_true rfl, Nat.le_of_ble_eq_true rfl⟩ ⟨Nat.le_refl _, Nat.le_refl _⟩ rfl hl rfl (Nat.le_of_ble_eq_true rfl) d_AP_split_14 ?_
      refine lv_astore (lv' := [(9, .ref (wad g (2 * zj2 + 2))), (8, .null), (0, .ref (wad g 0)), (1, .int zp0), (2, .int zp1), (3, .int (nI zj2)), (4, .int zp3), (5, .int zp4), (6, .int zp5), (7, .int zp6)]) hx hb d_AP_split_17 hl (by decide) rfl (fun ls hl => ?_)
      refine lv_aloadN hx hb d_AP_split_19 (lv_at hl 1 rfl) ?_
      refine lv_ifnullN (tgt := 29) hx hb d_AP_split_21 (by decide) ?_
      refine lv_iconst (v := (-1)) hx hb d_AP_split_29 (by decide) ?_
      exact W_i hc hw hr hlocks (by rw [s_split_1 (by simp only [inN, rng]; omega)]; exact ⟨rfl, rfl, hC0, (by repeat (first | exact FrO.rf _ _ _ | refine FrO.up ?_ (by omega) (by omega)))⟩) d_AP_split_30
    · refine kRV hc hw lk_AP_63 (As := [.int zp2]) (rest := []) (c_AP_sheetAt_n l D g _ zp2 zhs2) (rc_AP hw) ⟨Nat.le_of_ble_eq_true rfl, Nat.le_of_ble_eq_true rfl⟩ ⟨Nat.le_refl _, Nat.le_refl _⟩ rfl hl rfl (Nat.le_of_ble_eq_true rfl) d_AP_split_14 ?_
      unfold rng at zhs2
      refine lv_astoreN (lv' := [(9, .null), (8, .null), (0, .ref (wad g 0)), (1, .int zp0), (2, .int zp1), (3, .int zp2), (4, .int zp3), (5, .int zp4), (6, .int zp5), (7, .int zp6)]) hx hb d_AP_split_17 hl (by decide) rfl (fun ls hl => ?_)
      refine lv_aloadN hx hb d_AP_split_19 (lv_at hl 1 rfl) ?_
      refine lv_ifnullN (tgt := 29) hx hb d_AP_split_21 (by decide) ?_
      refine lv_iconst (v := (-1)) hx hb d_AP_split_29 (by decide) ?_
      exact W_i hc hw hr hlocks (by rw [s_split_1 (by simp only [inN, rng]; omega)]; exact ⟨rfl, rfl, hC0, (by repeat (first | exact FrO.rf _ _ _ | refine FrO.up ?_ (by omega) (by omega)))⟩) d_AP_split_30
