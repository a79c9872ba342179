/-! printed by wip/gen/meths6.py: sheets of the class -/
theorem flt_0 {ln : Option Nat} {sz : Nat} {x i n : Int32} (h : flt ln sz x i n = 0) : ¬ ln = none ∧ (mI ln).toInt = x.toInt ∧ rng i 0 sz ∧ rng n 0 (sz - i.toInt) := by
  unfold flt at h
  split at h
  · exact absurd h (by decide)
  · split at h
    · exact absurd h (by decide)
    · split at h
      · exact absurd h (by decide)
      · split at h
        · rename_i h1 h2 h3 h4
          exact ⟨h1, Decidable.not_not.mp h2, h4⟩
        · exact absurd h (by decide)
theorem flt_le (ln : Option Nat) (sz : Nat) (x i n : Int32) : flt ln sz x i n ≤ 4 := by
  unfold flt
  (repeat' split) <;> omega
theorem SC_2 {F : wF} {ln : Nat → Option Nat} {sz : Nat → Nat} {ce : Nat → Nat → Int32} (h : SC F ln sz ce) {k : Nat} (hk : k < 4) {u : wF} {f : Nat → Int32} (h3 : ∀ i, i < 40 → u (2 * k + 3) i = f i) (ho : ∀ a, a ≠ 2 * k + 3 → u a = F a) : SC u ln sz (va_up ce k f) := by
  have := SC_1 (u := u) h hk (x := ln k) (n := sz k) (f := f) (by rw [ho _ (by omega)]; exact (h k hk).1) (by rw [ho _ (by omega)]; exact (h k hk).2.1) h3 (fun a _ ha => ho a ha)
  rw [up_id, up_id] at this
  exact this
theorem SC_3 {F : wF} {ln : Nat → Option Nat} {sz : Nat → Nat} {ce : Nat → Nat → Int32} (h : SC F ln sz ce) {k : Nat} (hk : k < 4) {x : Int32} {y : Option Nat} (hx : x = mI y) : SC (u2 F (2 * k + 2) 1 x) (va_up ln k y) sz ce := by
  have := SC_1 (u := u2 F (2 * k + 2) 1 x) h hk (x := y) (n := sz k) (f := ce k) (by rw [u2_same, hx]) (by rw [u2_i (by decide)]; exact (h k hk).2.1) (fun i hi => by rw [u2_h (by omega)]; exact (h k hk).2.2 i hi) (fun a ha _ => u2_ne a ha)
  rw [up_id, up_id] at this
  exact this
theorem SC_cp {F : wF} {ln : Nat → Option Nat} {sz : Nat → Nat} {ce : Nat → Nat → Int32} (h : SC F ln sz ce) {a b : Nat} (ha : a < 4) (hb : b < 4) {i j n : Nat} (h1 : i + n ≤ 40) : SC (ucp F (2 * a + 3) (2 * b + 3) i j n) ln sz (va_up ce b (va_cpy (ce a) (ce b) i j n)) := by
  refine SC_2 h hb (fun z hz => ?_) (fun y hy => funext fun z => if_neg hy)
  show (if 2 * b + 3 = 2 * b + 3 then va_cpy (F (2 * a + 3)) (F (2 * b + 3)) i j n z else _) = _
  rw [if_pos rfl]
  unfold va_cpy
  split
  · exact (h a ha).2.2 _ (by omega)
  · exact (h b hb).2.2 z hz
theorem mI_inj {a b : Option Nat} (ha : ∀ x, a = some x → x ≤ 2) (hb : ∀ x, b = some x → x ≤ 2) (h : (mI a).toInt = (mI b).toInt) : a = b := by
  cases b with
  | none => exact (mI_toI ha).1.mp (h.trans (by decide))
  | some x => exact ((mI_toI ha).2 x).mp (h.trans (((mI_toI hb).2 x).mpr rfl))
set_option maxHeartbeats 4000000 in
theorem c_RW_begin (l : Launch) (D : va_G) (g : wG) (F : wF) (k : Nat) (hk : k < 4) (a n : Nat) : CW l y_RW_begin b_RW_begin 4 (Option.none) 0 0 0 D g F [.ref (wad g (2 * k + 2)), .int (nI a), .int (nI n)] (fun v g2 u => v = none ∧ g = g2 ∧ u (2 * k + 2) 1 = nI a ∧ u (2 * k + 2) 2 = nI n ∧ (∀ b, b < 40 → u (2 * k + 3) b = nI 0) ∧ ∀ h, h ≠ 2 * k + 2 → h ≠ 2 * k + 3 → u h = F h) := by
  refine CW.start rfl (Nat.le_of_ble_eq_true rfl) ?_
  intro p e s m args below meth c A ls hc hr hlocks hw hl
  have hl : lv_has ls 4 [(0, .ref (wad g (2 * k + 2))), (1, .int (nI a)), (2, .int (nI n))] := hl
  have hx := hc.1
  have hb := hc.2.1
  refine lv_aload_n hx hb d_RW_begin_0 rfl (lv_at hl 0 rfl) ?_
  refine lv_iload_n hx hb d_RW_begin_1 rfl (lv_at hl 1 rfl) ?_
  refine pf_RW_15 hc hw (k := k) (hk) d_RW_begin_2 (fun H locs hw => ?_)
  refine lv_aload_n hx hb d_RW_begin_5 rfl (lv_at hl 0 rfl) ?_
  refine lv_iload_n hx hb d_RW_begin_6 rfl (lv_at hl 2 rfl) ?_
  refine pf_RW_19 hc hw (k := k) (hk) d_RW_begin_7 (fun H locs hw => ?_)
  refine lv_iconst (v := nI 0) hx hb d_RW_begin_10 (by decide) ?_
  refine lv_istore_n (lv' := [(3, .int (nI 0)), (0, .ref (wad g (2 * k + 2))), (1, .int (nI a)), (2, .int (nI n))]) hx hb d_RW_begin_11 rfl hl (by decide) rfl (fun ls hl => ?_)
  have loop_12 : ∀ (n_12 : Nat) (i : Nat) (F1 : wF) (H : Heap) (locs : List Loc) (ls : Array Slot), (40 - i) < n_12 → (i ≤ 40) → (F1 (2 * k + 2) 1 = nI a) → (F1 (2 * k + 2) 2 = nI n) → (∀ b, b < i → F1 (2 * k + 3) b = nI 0) → (∀ h, h ≠ 2 * k + 2 → h ≠ 2 * k + 3 → F1 h = F h) → Wd D g F1 A s.heap H locs s → lv_has ls 4 [(0, .ref (wad g (2 * k + 2))), (1, .int (nI a)), (2, .int (nI n)), (3, .int (nI i))] → W p l e (rmc 0 0 0) s m args below meth c H locs 0 0 (MQ below (Qw (fun v g2 u => v = none ∧ g = g2 ∧ u (2 * k + 2) 1 = nI a ∧ u (2 * k + 2) 2 = nI n ∧ (∀ b, b < 40 → u (2 * k + 3) b = nI 0) ∧ ∀ h, h ≠ 2 * k + 2 → h ≠ 2 * k + 3 → u h = F h) (Bw D A) A) args s 0 0 A) (F0 m 12 ls []) := by
    intro n_12
    induction n_12 with
    | zero => intro i F1 H locs ls hm; exact absurd hm (Nat.not_lt_zero _)
    | succ n_12 ih_12 =>
      intro i F1 H locs ls hm_12 hi zhq1 zhq2 zhq3 zhq4 hw hl
      refine lv_iload_n hx hb d_RW_begin_12 rfl (lv_at hl 3 rfl) ?_
      refine lv_bipush (v := nI 40) hx hb d_RW_begin_13 (by decide) ?_
      refine q_icmp_ge (tgt := 31) hc (by omega) (by omega) d_RW_begin_15 (by decide) (fun c_1 => ?_) (fun c_1 => ?_)
      · have hi40 : i = 40 := by omega
        subst hi40
        exact W_v hc hw hr hlocks (⟨rfl, rfl, zhq1, zhq2, zhq3, zhq4⟩) d_RW_begin_31
      · refine lv_aload_n hx hb d_RW_begin_18 rfl (lv_at hl 0 rfl) ?_
        refine gf_RW_9 hc hw (k := k) (hk) d_RW_begin_19 ?_
        refine lv_iload_n hx hb d_RW_begin_22 rfl (lv_at hl 3 rfl) ?_
        refine lv_iconst (v := nI 0) hx hb d_RW_begin_23 (by decide) ?_
        refine r_iast hc hw (h := 2 * k + 3) (n := 40) (i := i) (fun f => wt_cells g (hk) f) (by omega) (by omega) (by decide) d_RW_begin_24 (fun H locs hw => ?_)
        refine lv_iinc (v := nI (i + 1)) (lv' := [(3, .int (nI (i + 1))), (0, .ref (wad g (2 * k + 2))), (1, .int (nI a)), (2, .int (nI n))]) hx hb d_RW_begin_25 hl (k := 3) rfl (nI_inc1 _) (by decide) rfl (fun ls hl => ?_)
        refine lv_goto (tgt := 12) hx hb d_RW_begin_28 (by decide) ?_
        exact ih_12 (i + 1) _ _ _ _ (by omega) (by omega) ((u2_h (by omega)).trans zhq1) ((u2_h (by omega)).trans zhq2) (fun b hb => by rcases (show b < i ∨ b = i by omega) with q | q; exact (u2_i (by omega)).trans (zhq3 b q); rw [q]; exact u2_same _ _ _ _) (fun h h1 h2 => (u2_ne h h2).trans (zhq4 h h1 h2)) hw (lv_sub hl [1, 2, 3, 0] rfl)
  exact loop_12 _ 0 _ _ _ _ (Nat.lt_succ_self _) (by omega) ((u2_i (by decide)).trans (u2_same _ _ _ _)) (u2_same _ _ _ _) (fun b hb => absurd hb (Nat.not_lt_zero b)) (fun h h1 h2 => (u2_ne h h1).trans (u2_ne h h1)) hw (lv_sub hl [1, 2, 3, 0] rfl)
set_option maxHeartbeats 4000000 in
theorem c_AP_sheet (l : Launch) (D : va_G) (g : wG) (F : wF) (pc : Nat) (lf : Nat → Nat) (lw : Nat) (cn : Nat) (fr to hv dy : Nat → Nat) (an af : Nat → Option Nat) (ln : Nat → Option Nat) (sz : Nat → Nat) (ce : Nat → Nat → Int32) (tr ft : Int32) (hG : GI g (pc, lf) lw (cn, fr, to, hv, dy, an, af) (ln, sz, ce)) (hC : CI g F (pc, lf) lw (cn, fr, to, hv, dy, an, af) (ln, sz, ce) tr ft) (zp0 zp1 zp2 : Int32) : CW l y_AP_sheet b_AP_sheet 5 (Option.some Jvm.ClassFile.FieldType.int) 3 0 0 D g F [.ref (wad g 0), .int zp0, .int zp1, .int zp2] (fun v g2 u => v = some (.int (s_sheet (ln, sz, ce) zp0 zp1 zp2).1) ∧ g = g2 ∧ CI g u (pc, lf) lw (cn, fr, to, hv, dy, an, af) (s_sheet (ln, sz, ce) zp0 zp1 zp2).2.1 tr (s_sheet (ln, sz, ce) zp0 zp1 zp2).2.2 ∧ FrO 0 57 F u) := by
  refine CW.start rfl (Nat.le_of_ble_eq_true rfl) ?_
  intro p e s m args below meth c A ls hc hr hlocks hw hl
  have hl : lv_has ls 5 [(0, .ref (wad g 0)), (1, .int zp0), (2, .int zp1), (3, .int zp2)] := hl
  have hx := hc.1
  have hb := hc.2.1
  obtain ⟨hpc6, hpcm, hm6, hpc0, hper⟩ : PI g pc lf := hG.1
  have hlw : lw ≤ 2 := hG.2.1
  have hI : LI pc cn fr to hv dy an af := hG.2.2.1
  have hcn := hI.1
  have hSI : SI ln sz := hG.2.2.2
  have hPC : PC F pc lf := hC.1
  have hL : LC g F cn fr to hv dy an af := hC.2.2.1
  have hSC : SC F ln sz ce := hC.2.2.2.1
  refine lv_aload_n hx hb d_AP_sheet_0 rfl (lv_at hl 0 rfl) ?_
  refine lv_iconst (v := nI 0) hx hb d_AP_sheet_1 (by decide) ?_
  refine pf_AP_59 hc hw d_AP_sheet_2 (fun H locs hw => ?_)
  have hC0 := CI_ft hC (nI 0)
  have hSC0 : SC _ ln sz ce := hC0.2.2.2.1
  refine lv_aload_n hx hb d_AP_sheet_5 rfl (lv_at hl 0 rfl) ?_
  refine lv_iload_n hx hb d_AP_sheet_6 rfl (lv_at hl 1 rfl) ?_
  by_cases zhs0 : rng zp0 0 3
  · obtain ⟨zj0, rfl, zj0_1, zj0_2⟩ := rng_nat zhs0 (by decide)
    have zj0_e := nI_tI (j := zj0) (by omega)
    have zj0_t := tn_nI (j := zj0) (by omega)
    unfold rng at zhs0
    have zj0_4 : zj0 < 4 := by omega
    refine kRV hc hw lk_AP_63 (As := [.int (nI zj0)]) (rest := []) (c_AP_sheetAt_y l D g _ zj0 zj0_4) (rc_AP hw) ⟨Nat.le_of_ble_eq_true rfl, Nat.le_of_ble_eq_true rfl⟩ ⟨Nat.le_refl _, Nat.le_refl _⟩ rfl hl rfl (Nat.le_of_ble_eq_true rfl) d_AP_sheet_7 ?_
    refine lv_astore (lv' := [(4, .ref (wad g (2 * zj0 + 2))), (0, .ref (wad g 0)), (1, .int (nI zj0)), (2, .int zp1), (3, .int zp2)]) hx hb d_AP_sheet_10 hl (by decide) rfl (fun ls hl => ?_)
    refine lv_aload hx hb d_AP_sheet_12 (lv_at hl 0 rfl) ?_
    refine lv_ifnonnull (tgt := 19) hx hb d_AP_sheet_14 (by decide) ?_
    refine lv_iload_n hx hb d_AP_sheet_19 rfl (lv_at hl 3 rfl) ?_
    refine lv_iconst (v := nI 0) hx hb d_AP_sheet_20 (by decide) ?_
    refine lv_iconst (v := nI 2) hx hb d_AP_sheet_21 (by decide) ?_
    refine kRS hc hw lk_AP_67 (As := [.int zp1, .int (nI 0), .int (nI 2)]) (rest := []) (c_AP_isWithin l D g _ (zp1) (nI 0) (nI 2) 0 2 (by decide) (by decide)) ⟨Nat.le_of_ble_eq_true rfl, Nat.le_of_ble_eq_true rfl⟩ ⟨Nat.le_refl _, Nat.le_refl _⟩ rfl hl rfl (Nat.le_of_ble_eq_true rfl) d_AP_sheet_22 ?_
    refine b_if_eq (tgt := 34) hc d_AP_sheet_25 (by decide) (fun c_1 => ?_) (fun c_1 => ?_)
    · try unfold rng at c_1
      refine lv_bipush (v := (-2)) hx hb d_AP_sheet_34 (by decide) ?_
      exact W_i hc hw hr hlocks (by refine ⟨congrArg (fun z => some (Value.int z)) ?_, rfl, ?_, (by repeat (first | exact FrO.rf _ _ _ | refine FrO.up ?_ (by omega) (by omega)))⟩; (unfold s_sheet; (try simp only [inN, rng, zj0_t, zj0_e]); (repeat' split) <;> first | (exfalso; omega) | contradiction | rfl); (unfold s_sheet; (try simp only [inN, rng, zj0_t, zj0_e]); (repeat' split) <;> first | (exfalso; omega) | contradiction | exact hC0)) d_AP_sheet_36
    · obtain ⟨zj1, rfl, zj1_1, zj1_2⟩ := rng_nat c_1 (by decide)
      have zj1_e := nI_tI (j := zj1) (by omega)
      have zj1_t := tn_nI (j := zj1) (by omega)
      try unfold rng at c_1
      refine lv_iload_n hx hb d_AP_sheet_28 rfl (lv_at hl 4 rfl) ?_
      refine lv_bipush (v := nI 40) hx hb d_AP_sheet_29 (by decide) ?_
      refine u_icmp_le (tgt := 37) (X := (zp2).toInt) (Y := 40) hc (rfl) (by decide) d_AP_sheet_31 (by decide) (fun c_2 => ?_) (fun c_2 => ?_)
      · refine lv_iload_n hx hb d_AP_sheet_37 rfl (lv_at hl 4 rfl) ?_
        refine u_if_ge (tgt := 47) (X := (zp2).toInt) hc (rfl) d_AP_sheet_38 (by decide) (fun c_3 => ?_) (fun c_3 => ?_)
        · obtain ⟨zj2, rfl, zj2_1, zj2_2⟩ := rng_nat (x := zp2) (a := 0) (b := 40) ⟨by omega, by omega⟩ (by decide)
          have zj2_e := nI_tI (j := zj2) (by omega)
          have zj2_t := tn_nI (j := zj2) (by omega)
          refine lv_aload hx hb d_AP_sheet_47 (lv_at hl 0 rfl) ?_
          refine lv_iload_n hx hb d_AP_sheet_49 rfl (lv_at hl 3 rfl) ?_
          refine lv_iload_n hx hb d_AP_sheet_50 rfl (lv_at hl 4 rfl) ?_
          refine kWV hc hw lk_AP_218 (h := 2 * zj0 + 2) (As := [.int (nI zj1), .int (nI zj2)]) (rest := []) (c_RW_begin l D g _ zj0 zj0_4 (zj1) (zj2)) (rc_RW hw zj0_4) ⟨Nat.le_of_ble_eq_true rfl, Nat.le_of_ble_eq_true rfl⟩ ⟨Nat.le_refl _, Nat.le_refl _⟩ rfl hl rfl (Nat.le_of_ble_eq_true rfl) d_AP_sheet_51 (fun v_4 g_5 F_6 H locs zhp_7 hw => ?_)
          obtain ⟨rfl, rfl, hB1, hB2, hB3, hB4⟩ := zhp_7
          have hS9 := SC_1 hSC0 zj0_4 (x := some zj1) (n := zj2) (f := fun _ => 0) hB1 hB2 (fun i hi => (hB3 i hi).trans nI_0) hB4
          have hF9 : FrO 2 9 _ F_6 := fun h hh => hB4 h (by omega) (by omega)
          refine lv_iconst (v := nI 1) hx hb d_AP_sheet_54 (by decide) ?_
          exact W_i hc hw hr hlocks (by refine ⟨congrArg (fun z => some (Value.int z)) ?_, rfl, ?_, ((FrO.up (FrO.rf 0 57 F) (by decide) (by decide)).tr (hF9.wide (by decide) (by decide)))⟩; (unfold s_sheet; (try simp only [inN, rng, zj0_t, zj0_e, zj1_t, zj1_e, zj2_t, zj2_e]); (repeat' split) <;> first | (exfalso; omega) | contradiction | rfl); (unfold s_sheet; (try simp only [inN, rng, zj0_t, zj0_e, zj1_t, zj1_e, zj2_t, zj2_e]); (repeat' split) <;> first | (exfalso; omega) | contradiction | exact CI_S (S2 := (_, _, _)) hC0 hS9 hF9)) d_AP_sheet_55
        · refine lv_aload_n hx hb d_AP_sheet_41 rfl (lv_at hl 1 rfl) ?_
          refine lv_iconst (v := nI 4) hx hb d_AP_sheet_42 (by decide) ?_
          refine kWV hc hw lk_AP_75 (h := 0) (As := [.int (nI 4)]) (rest := []) (c_AP_faulted l D g _ 4) (rc_AP hw) ⟨Nat.le_of_ble_eq_true rfl, Nat.le_of_ble_eq_true rfl⟩ ⟨Nat.le_refl _, Nat.le_refl _⟩ rfl hl rfl (Nat.le_of_ble_eq_true rfl) d_AP_sheet_43 (fun v_8 g_9 F_10 H locs zhp_11 hw => ?_)
          obtain ⟨rfl, rfl, rfl⟩ := zhp_11
          exact W_i hc hw hr hlocks (by refine ⟨congrArg (fun z => some (Value.int z)) ?_, rfl, ?_, (by repeat (first | exact FrO.rf _ _ _ | refine FrO.up ?_ (by omega) (by omega)))⟩; (unfold s_sheet; (try simp only [inN, rng, zj0_t, zj0_e, zj1_t, zj1_e]); (repeat' split) <;> first | (exfalso; omega) | contradiction | rfl); (unfold s_sheet; (try simp only [inN, rng, zj0_t, zj0_e, zj1_t, zj1_e]); (repeat' split) <;> first | (exfalso; omega) | contradiction | exact CI_ft hC0 _)) d_AP_sheet_46
      · refine lv_bipush (v := (-2)) hx hb d_AP_sheet_34 (by decide) ?_
        exact W_i hc hw hr hlocks (by refine ⟨congrArg (fun z => some (Value.int z)) ?_, rfl, ?_, (by repeat (first | exact FrO.rf _ _ _ | refine FrO.up ?_ (by omega) (by omega)))⟩; (unfold s_sheet; (try simp only [inN, rng, zj0_t, zj0_e, zj1_t, zj1_e]); (repeat' split) <;> first | (exfalso; omega) | contradiction | rfl); (unfold s_sheet; (try simp only [inN, rng, zj0_t, zj0_e, zj1_t, zj1_e]); (repeat' split) <;> first | (exfalso; omega) | contradiction | exact hC0)) d_AP_sheet_36
  · refine kRV hc hw lk_AP_63 (As := [.int zp0]) (rest := []) (c_AP_sheetAt_n l D g _ zp0 zhs0) (rc_AP hw) ⟨Nat.le_of_ble_eq_true rfl, Nat.le_of_ble_eq_true rfl⟩ ⟨Nat.le_refl _, Nat.le_refl _⟩ rfl hl rfl (Nat.le_of_ble_eq_true rfl) d_AP_sheet_7 ?_
    unfold rng at zhs0
    refine lv_astoreN (lv' := [(4, .null), (0, .ref (wad g 0)), (1, .int zp0), (2, .int zp1), (3, .int zp2)]) hx hb d_AP_sheet_10 hl (by decide) rfl (fun ls hl => ?_)
    refine lv_aloadN hx hb d_AP_sheet_12 (lv_at hl 0 rfl) ?_
    refine lv_ifnonnullN hx hb d_AP_sheet_14 ?_
    refine lv_iconst (v := (-1)) hx hb d_AP_sheet_17 (by decide) ?_
    exact W_i hc hw hr hlocks (by refine ⟨congrArg (fun z => some (Value.int z)) ?_, rfl, ?_, (by repeat (first | exact FrO.rf _ _ _ | refine FrO.up ?_ (by omega) (by omega)))⟩; (unfold s_sheet; (try simp only [inN, rng]); (repeat' split) <;> first | (exfalso; omega) | contradiction | rfl); (unfold s_sheet; (try simp only [inN, rng]); (repeat' split) <;> first | (exfalso; omega) | contradiction | exact hC0)) d_AP_sheet_18
set_option maxHeartbeats 4000000 in
theorem c_AP_lose (l : Launch) (D : va_G) (g : wG) (F : wF) (pc : Nat) (lf : Nat → Nat) (lw : Nat) (cn : Nat) (fr to hv dy : Nat → Nat) (an af : Nat → Option Nat) (ln : Nat → Option Nat) (sz : Nat → Nat) (ce : Nat → Nat → Int32) (tr ft : Int32) (hG : GI g (pc, lf) lw (cn, fr, to, hv, dy, an, af) (ln, sz, ce)) (hC : CI g F (pc, lf) lw (cn, fr, to, hv, dy, an, af) (ln, sz, ce) tr ft) (zp0 : Int32) : CW l y_AP_lose b_AP_lose 4 (Option.some Jvm.ClassFile.FieldType.int) 3 0 0 D g F [.ref (wad g 0), .int zp0] (fun v g2 u => v = some (.int (s_lose (ln, sz, ce) zp0).1) ∧ g = g2 ∧ CI g u (pc, lf) lw (cn, fr, to, hv, dy, an, af) (s_lose (ln, sz, ce) zp0).2 tr ft ∧ FrO 0 57 F u) := by
  refine CW.start rfl (Nat.le_of_ble_eq_true rfl) ?_
  intro p e s m args below meth c A ls hc hr hlocks hw hl
  have hl : lv_has ls 4 [(0, .ref (wad g 0)), (1, .int zp0)] := hl
  have hx := hc.1
  have hb := hc.2.1
  obtain ⟨hpc6, hpcm, hm6, hpc0, hper⟩ : PI g pc lf := hG.1
  have hlw : lw ≤ 2 := hG.2.1
  have hI : LI pc cn fr to hv dy an af := hG.2.2.1
  have hcn := hI.1
  have hSI : SI ln sz := hG.2.2.2
  have hPC : PC F pc lf := hC.1
  have hL : LC g F cn fr to hv dy an af := hC.2.2.1
  have hSC : SC F ln sz ce := hC.2.2.2.1
  refine lv_aload_n hx hb d_AP_lose_0 rfl (lv_at hl 0 rfl) ?_
  refine lv_iload_n hx hb d_AP_lose_1 rfl (lv_at hl 1 rfl) ?_
  by_cases zhs0 : rng zp0 0 3
  · obtain ⟨zj0, rfl, zj0_1, zj0_2⟩ := rng_nat zhs0 (by decide)
    have zj0_e := nI_tI (j := zj0) (by omega)
    have zj0_t := tn_nI (j := zj0) (by omega)
    unfold rng at zhs0
    have zj0_4 : zj0 < 4 := by omega
    refine kRV hc hw lk_AP_63 (As := [.int (nI zj0)]) (rest := []) (c_AP_sheetAt_y l D g _ zj0 zj0_4) (rc_AP hw) ⟨Nat.le_of_ble_eq_true rfl, Nat.le_of_ble_eq_true rfl⟩ ⟨Nat.le_refl _, Nat.le_refl _⟩ rfl hl rfl (Nat.le_of_ble_eq_true rfl) d_AP_lose_2 ?_
    refine lv_astore_n (lv' := [(2, .ref (wad g (2 * zj0 + 2))), (0, .ref (wad g 0)), (1, .int (nI zj0))]) hx hb d_AP_lose_5 rfl hl (by decide) rfl (fun ls hl => ?_)
    refine lv_aload_n hx hb d_AP_lose_6 rfl (lv_at hl 0 rfl) ?_
    refine lv_ifnonnull (tgt := 12) hx hb d_AP_lose_7 (by decide) ?_
    refine lv_aload_n hx hb d_AP_lose_12 rfl (lv_at hl 0 rfl) ?_
    refine kRV hc hw lk_AP_221 (As := []) (rest := []) (c_RW_isNothing l D g _ zj0 zj0_4 (ln zj0) (hSI zj0 zj0_4).2 ((hSC zj0 zj0_4).1)) (rc_RW hw (zj0_4)) ⟨Nat.le_of_ble_eq_true rfl, Nat.le_of_ble_eq_true rfl⟩ ⟨Nat.le_refl _, Nat.le_refl _⟩ rfl hl rfl (Nat.le_of_ble_eq_true rfl) d_AP_lose_13 ?_
    refine b_if_eq (tgt := 23) hc d_AP_lose_16 (by decide) (fun c_1 => ?_) (fun c_1 => ?_)
    · refine lv_iconst (v := nI 1) hx hb d_AP_lose_23 (by decide) ?_
      refine lv_istore_n (lv' := [(3, .int (nI 1)), (2, .ref (wad g (2 * zj0 + 2))), (0, .ref (wad g 0)), (1, .int (nI zj0))]) hx hb d_AP_lose_24 rfl hl (by decide) rfl (fun ls hl => ?_)
      refine lv_aload_n hx hb d_AP_lose_25 rfl (lv_at hl 1 rfl) ?_
      refine lv_iconst (v := (-1)) hx hb d_AP_lose_26 (by decide) ?_
      refine pf_AP_224 hc hw (k := zj0) (zj0_4) d_AP_lose_27 (fun H locs hw => ?_)
      refine lv_iload_n hx hb d_AP_lose_30 rfl (lv_at hl 0 rfl) ?_
      exact W_i hc hw hr hlocks (by refine ⟨congrArg (fun z => some (Value.int z)) ?_, rfl, ?_, (by repeat (first | exact FrO.rf _ _ _ | refine FrO.up ?_ (by omega) (by omega)))⟩; (unfold s_lose; (try simp only [inN, rng, zj0_t, zj0_e]); (repeat' split) <;> first | (exfalso; omega) | contradiction | rfl); (unfold s_lose; (try simp only [inN, rng, zj0_t, zj0_e]); (repeat' split) <;> first | (exfalso; omega) | contradiction | exact CI_S (S2 := (_, _, _)) hC (SC_3 hSC zj0_4 (y := none) rfl) ((FrO.rf 2 9 F).up (by omega) (by omega)))) d_AP_lose_31
    · refine lv_iconst (v := nI 0) hx hb d_AP_lose_19 (by decide) ?_
      refine lv_goto (tgt := 24) hx hb d_AP_lose_20 (by decide) ?_
      refine lv_istore_n (lv' := [(3, .int (nI 0)), (2, .ref (wad g (2 * zj0 + 2))), (0, .ref (wad g 0)), (1, .int (nI zj0))]) hx hb d_AP_lose_24 rfl hl (by decide) rfl (fun ls hl => ?_)
      refine lv_aload_n hx hb d_AP_lose_25 rfl (lv_at hl 1 rfl) ?_
      refine lv_iconst (v := (-1)) hx hb d_AP_lose_26 (by decide) ?_
      refine pf_AP_224 hc hw (k := zj0) (zj0_4) d_AP_lose_27 (fun H locs hw => ?_)
      refine lv_iload_n hx hb d_AP_lose_30 rfl (lv_at hl 0 rfl) ?_
      exact W_i hc hw hr hlocks (by refine ⟨congrArg (fun z => some (Value.int z)) ?_, rfl, ?_, (by repeat (first | exact FrO.rf _ _ _ | refine FrO.up ?_ (by omega) (by omega)))⟩; (unfold s_lose; (try simp only [inN, rng, zj0_t, zj0_e]); (repeat' split) <;> first | (exfalso; omega) | contradiction | rfl); (unfold s_lose; (try simp only [inN, rng, zj0_t, zj0_e]); (repeat' split) <;> first | (exfalso; omega) | contradiction | exact CI_S (S2 := (_, _, _)) hC (SC_3 hSC zj0_4 (y := none) rfl) ((FrO.rf 2 9 F).up (by omega) (by omega)))) d_AP_lose_31
  · refine kRV hc hw lk_AP_63 (As := [.int zp0]) (rest := []) (c_AP_sheetAt_n l D g _ zp0 zhs0) (rc_AP hw) ⟨Nat.le_of_ble_eq_true rfl, Nat.le_of_ble_eq_true rfl⟩ ⟨Nat.le_refl _, Nat.le_refl _⟩ rfl hl rfl (Nat.le_of_ble_eq_true rfl) d_AP_lose_2 ?_
    unfold rng at zhs0
    refine lv_astore_nN (lv' := [(2, .null), (0, .ref (wad g 0)), (1, .int zp0)]) hx hb d_AP_lose_5 rfl hl (by decide) rfl (fun ls hl => ?_)
    refine lv_aload_nN hx hb d_AP_lose_6 rfl (lv_at hl 0 rfl) ?_
    refine lv_ifnonnullN hx hb d_AP_lose_7 ?_
    refine lv_iconst (v := (-1)) hx hb d_AP_lose_10 (by decide) ?_
    exact W_i hc hw hr hlocks (by refine ⟨congrArg (fun z => some (Value.int z)) ?_, rfl, ?_, (by repeat (first | exact FrO.rf _ _ _ | refine FrO.up ?_ (by omega) (by omega)))⟩; (unfold s_lose; (try simp only [inN, rng]); (repeat' split) <;> first | (exfalso; omega) | contradiction | rfl); (unfold s_lose; (try simp only [inN, rng]); (repeat' split) <;> first | (exfalso; omega) | contradiction | exact hC)) d_AP_lose_11
set_option maxHeartbeats 4000000 in
theorem c_AP_put (l : Launch) (D : va_G) (g : wG) (F : wF) (pc : Nat) (lf : Nat → Nat) (lw : Nat) (cn : Nat) (fr to hv dy : Nat → Nat) (an af : Nat → Option Nat) (ln : Nat → Option Nat) (sz : Nat → Nat) (ce : Nat → Nat → Int32) (tr ft : Int32) (hG : GI g (pc, lf) lw (cn, fr, to, hv, dy, an, af) (ln, sz, ce)) (hC : CI g F (pc, lf) lw (cn, fr, to, hv, dy, an, af) (ln, sz, ce) tr ft) (zp0 zp1 zp2 : Int32) : CW l y_AP_put b_AP_put 5 (Option.some Jvm.ClassFile.FieldType.int) 3 0 0 D g F [.ref (wad g 0), .int zp0, .int zp1, .int zp2] (fun v g2 u => v = some (.int (s_put (ln, sz, ce) zp0 zp1 zp2).1) ∧ g = g2 ∧ CI g u (pc, lf) lw (cn, fr, to, hv, dy, an, af) (s_put (ln, sz, ce) zp0 zp1 zp2).2.1 tr (s_put (ln, sz, ce) zp0 zp1 zp2).2.2 ∧ FrO 0 57 F u) := by
  refine CW.start rfl (Nat.le_of_ble_eq_true rfl) ?_
  intro p e s m args below meth c A ls hc hr hlocks hw hl
  have hl : lv_has ls 5 [(0, .ref (wad g 0)), (1, .int zp0), (2, .int zp1), (3, .int zp2)] := hl
  have hx := hc.1
  have hb := hc.2.1
  obtain ⟨hpc6, hpcm, hm6, hpc0, hper⟩ : PI g pc lf := hG.1
  have hlw : lw ≤ 2 := hG.2.1
  have hI : LI pc cn fr to hv dy an af := hG.2.2.1
  have hcn := hI.1
  have hSI : SI ln sz := hG.2.2.2
  have hPC : PC F pc lf := hC.1
  have hL : LC g F cn fr to hv dy an af := hC.2.2.1
  have hSC : SC F ln sz ce := hC.2.2.2.1
  refine lv_aload_n hx hb d_AP_put_0 rfl (lv_at hl 0 rfl) ?_
  refine lv_iconst (v := nI 0) hx hb d_AP_put_1 (by decide) ?_
  refine pf_AP_59 hc hw d_AP_put_2 (fun H locs hw => ?_)
  have hC0 := CI_ft hC (nI 0)
  have hSC0 : SC _ ln sz ce := hC0.2.2.2.1
  refine lv_aload_n hx hb d_AP_put_5 rfl (lv_at hl 0 rfl) ?_
  refine lv_iload_n hx hb d_AP_put_6 rfl (lv_at hl 1 rfl) ?_
  by_cases zhs0 : rng zp0 0 3
  · obtain ⟨zj0, rfl, zj0_1, zj0_2⟩ := rng_nat zhs0 (by decide)
    have zj0_e := nI_tI (j := zj0) (by omega)
    have zj0_t := tn_nI (j := zj0) (by omega)
    unfold rng at zhs0
    have zj0_4 : zj0 < 4 := by omega
    refine kRV hc hw lk_AP_63 (As := [.int (nI zj0)]) (rest := []) (c_AP_sheetAt_y l D g _ zj0 zj0_4) (rc_AP hw) ⟨Nat.le_of_ble_eq_true rfl, Nat.le_of_ble_eq_true rfl⟩ ⟨Nat.le_refl _, Nat.le_refl _⟩ rfl hl rfl (Nat.le_of_ble_eq_true rfl) d_AP_put_7 ?_
    refine lv_astore (lv' := [(4, .ref (wad g (2 * zj0 + 2))), (0, .ref (wad g 0)), (1, .int (nI zj0)), (2, .int zp1), (3, .int zp2)]) hx hb d_AP_put_10 hl (by decide) rfl (fun ls hl => ?_)
    refine lv_aload hx hb d_AP_put_12 (lv_at hl 0 rfl) ?_
    refine lv_ifnonnull (tgt := 19) hx hb d_AP_put_14 (by decide) ?_
    refine lv_aload hx hb d_AP_put_19 (lv_at hl 0 rfl) ?_
    refine kRV hc hw lk_AP_221 (As := []) (rest := []) (c_RW_isNothing l D g _ zj0 zj0_4 (ln zj0) (hSI zj0 zj0_4).2 ((u2_h (by omega)).trans ((hSC zj0 zj0_4).1))) (rc_RW hw (zj0_4)) ⟨Nat.le_of_ble_eq_true rfl, Nat.le_of_ble_eq_true rfl⟩ ⟨Nat.le_refl _, Nat.le_refl _⟩ rfl hl rfl (Nat.le_of_ble_eq_true rfl) d_AP_put_21 ?_
    refine b_if_eq (tgt := 33) hc d_AP_put_24 (by decide) (fun c_1 => ?_) (fun c_1 => ?_)
    · refine lv_aload hx hb d_AP_put_33 (lv_at hl 0 rfl) ?_
      refine lv_iload_n hx hb d_AP_put_35 rfl (lv_at hl 3 rfl) ?_
      refine lv_iconst (v := nI 1) hx hb d_AP_put_36 (by decide) ?_
      refine kRV hc hw lk_AP_227 (As := [.int zp1, .int (nI 1)]) (rest := []) (c_RW_hasCells l D g _ zj0 zj0_4 (sz zj0) (hSI zj0 zj0_4).1 ((u2_h (by omega)).trans ((hSC zj0 zj0_4).2.1)) (zp1) (nI 1)) (rc_RW hw (zj0_4)) ⟨Nat.le_of_ble_eq_true rfl, Nat.le_of_ble_eq_true rfl⟩ ⟨Nat.le_refl _, Nat.le_refl _⟩ rfl hl rfl (Nat.le_of_ble_eq_true rfl) d_AP_put_37 ?_
      refine b_if_ne (tgt := 49) hc d_AP_put_40 (by decide) (fun c_2 => ?_) (fun c_2 => ?_)
      · obtain ⟨zj1, rfl, zj1_1, zj1_2⟩ := rng_nat c_2.1 (by decide)
        have hsz := (hSI zj0 zj0_4).1
        have zj1_e := nI_tI (j := zj1) (by omega)
        have zj1_t := tn_nI (j := zj1) (by omega)
        simp only [rng, zj1_e, show (nI 1).toInt = 1 from rfl] at c_2
        refine lv_aload hx hb d_AP_put_49 (lv_at hl 0 rfl) ?_
        refine gf_AP_79 hc hw (k := zj0) (zj0_4) d_AP_put_51 ?_
        refine lv_iload_n hx hb d_AP_put_54 rfl (lv_at hl 3 rfl) ?_
        refine lv_aload hx hb d_AP_put_55 (lv_at hl 0 rfl) ?_
        refine lv_iload_n hx hb d_AP_put_57 rfl (lv_at hl 4 rfl) ?_
        refine kRV hc hw lk_AP_231 (As := [.int zp2]) (rest := [.int (nI zj1), .ref (wad g (2 * zj0 + 3))]) (c_RW_cut l D g _ zj0 zj0_4 (ln zj0) (hSI zj0 zj0_4).2 ((u2_h (by omega)).trans ((hSC zj0 zj0_4).1)) (zp2)) (rc_RW hw (zj0_4)) ⟨Nat.le_of_ble_eq_true rfl, Nat.le_of_ble_eq_true rfl⟩ ⟨Nat.le_refl _, Nat.le_refl _⟩ rfl hl rfl (Nat.le_of_ble_eq_true rfl) d_AP_put_58 ?_
        refine r_iast hc hw (h := 2 * zj0 + 3) (n := 40) (i := zj1) (fun f => wt_cells g (zj0_4) f) (by omega) (by omega) (by decide) d_AP_put_61 (fun H locs hw => ?_)
        refine lv_iconst (v := nI 1) hx hb d_AP_put_62 (by decide) ?_
        exact W_i hc hw hr hlocks (by refine ⟨congrArg (fun z => some (Value.int z)) ?_, rfl, ?_, (by repeat (first | exact FrO.rf _ _ _ | refine FrO.up ?_ (by omega) (by omega)))⟩; (unfold s_put; (try simp only [inN, rng, zj0_t, zj0_e, zj1_t, zj1_e]); (repeat' split) <;> first | (exfalso; omega) | contradiction | rfl); (unfold s_put; (try simp only [inN, rng, zj0_t, zj0_e, zj1_t, zj1_e]); (repeat' split) <;> first | (exfalso; omega) | contradiction | exact CI_S (S2 := (_, _, _)) hC0 (SC_2 hSC0 zj0_4 (f := va_up (ce zj0) zj1 (cutI (ln zj0) zp2)) (fun i hi => by by_cases q : i = zj1; (subst q; rw [u2_same, va_up_self]); (rw [u2_i q, va_up_ne _ _ q]; exact (hSC0 zj0 zj0_4).2.2 i hi)) (fun a ha => u2_ne a ha)) ((FrO.rf 2 9 _).up (by omega) (by omega)))) d_AP_put_63
      · simp only [rng, show (nI 1).toInt = 1 from rfl] at c_2
        refine lv_aload_n hx hb d_AP_put_43 rfl (lv_at hl 1 rfl) ?_
        refine lv_iconst (v := nI 3) hx hb d_AP_put_44 (by decide) ?_
        refine kWV hc hw lk_AP_75 (h := 0) (As := [.int (nI 3)]) (rest := []) (c_AP_faulted l D g _ 3) (rc_AP hw) ⟨Nat.le_of_ble_eq_true rfl, Nat.le_of_ble_eq_true rfl⟩ ⟨Nat.le_refl _, Nat.le_refl _⟩ rfl hl rfl (Nat.le_of_ble_eq_true rfl) d_AP_put_45 (fun v_3 g_4 F_5 H locs zhp_6 hw => ?_)
        obtain ⟨rfl, rfl, rfl⟩ := zhp_6
        exact W_i hc hw hr hlocks (by refine ⟨congrArg (fun z => some (Value.int z)) ?_, rfl, ?_, (by repeat (first | exact FrO.rf _ _ _ | refine FrO.up ?_ (by omega) (by omega)))⟩; (unfold s_put; (try simp only [inN, rng, zj0_t, zj0_e]); (repeat' split) <;> first | (exfalso; omega) | contradiction | rfl); (unfold s_put; (try simp only [inN, rng, zj0_t, zj0_e]); (repeat' split) <;> first | (exfalso; omega) | contradiction | exact CI_ft hC0 _)) d_AP_put_48
    · refine lv_aload_n hx hb d_AP_put_27 rfl (lv_at hl 1 rfl) ?_
      refine lv_iconst (v := nI 1) hx hb d_AP_put_28 (by decide) ?_
      refine kWV hc hw lk_AP_75 (h := 0) (As := [.int (nI 1)]) (rest := []) (c_AP_faulted l D g _ 1) (rc_AP hw) ⟨Nat.le_of_ble_eq_true rfl, Nat.le_of_ble_eq_true rfl⟩ ⟨Nat.le_refl _, Nat.le_refl _⟩ rfl hl rfl (Nat.le_of_ble_eq_true rfl) d_AP_put_29 (fun v_7 g_8 F_9 H locs zhp_10 hw => ?_)
      obtain ⟨rfl, rfl, rfl⟩ := zhp_10
      exact W_i hc hw hr hlocks (by refine ⟨congrArg (fun z => some (Value.int z)) ?_, rfl, ?_, (by repeat (first | exact FrO.rf _ _ _ | refine FrO.up ?_ (by omega) (by omega)))⟩; (unfold s_put; (try simp only [inN, rng, zj0_t, zj0_e]); (repeat' split) <;> first | (exfalso; omega) | contradiction | rfl); (unfold s_put; (try simp only [inN, rng, zj0_t, zj0_e]); (repeat' split) <;> first | (exfalso; omega) | contradiction | exact CI_ft hC0 _)) d_AP_put_32
  · refine kRV hc hw lk_AP_63 (As := [.int zp0]) (rest := []) (c_AP_sheetAt_n l D g _ zp0 zhs0) (rc_AP hw) ⟨Nat.le_of_ble_eq_true rfl, Nat.le_of_ble_eq_true rfl⟩ ⟨Nat.le_refl _, Nat.le_refl _⟩ rfl hl rfl (Nat.le_of_ble_eq_true rfl) d_AP_put_7 ?_
    unfold rng at zhs0
    refine lv_astoreN (lv' := [(4, .null), (0, .ref (wad g 0)), (1, .int zp0), (2, .int zp1), (3, .int zp2)]) hx hb d_AP_put_10 hl (by decide) rfl (fun ls hl => ?_)
    refine lv_aloadN hx hb d_AP_put_12 (lv_at hl 0 rfl) ?_
    refine lv_ifnonnullN hx hb d_AP_put_14 ?_
    refine lv_iconst (v := (-1)) hx hb d_AP_put_17 (by decide) ?_
    exact W_i hc hw hr hlocks (by refine ⟨congrArg (fun z => some (Value.int z)) ?_, rfl, ?_, (by repeat (first | exact FrO.rf _ _ _ | refine FrO.up ?_ (by omega) (by omega)))⟩; (unfold s_put; (try simp only [inN, rng]); (repeat' split) <;> first | (exfalso; omega) | contradiction | rfl); (unfold s_put; (try simp only [inN, rng]); (repeat' split) <;> first | (exfalso; omega) | contradiction | exact hC0)) d_AP_put_18
set_option maxHeartbeats 4000000 in
theorem c_AP_cell (l : Launch) (D : va_G) (g : wG) (F : wF) (pc : Nat) (lf : Nat → Nat) (lw : Nat) (cn : Nat) (fr to hv dy : Nat → Nat) (an af : Nat → Option Nat) (ln : Nat → Option Nat) (sz : Nat → Nat) (ce : Nat → Nat → Int32) (tr ft : Int32) (hG : GI g (pc, lf) lw (cn, fr, to, hv, dy, an, af) (ln, sz, ce)) (hC : CI g F (pc, lf) lw (cn, fr, to, hv, dy, an, af) (ln, sz, ce) tr ft) (zp0 zp1 zp2 : Int32) : CW l y_AP_cell b_AP_cell 5 (Option.some Jvm.ClassFile.FieldType.long) 3 0 0 D g F [.ref (wad g 0), .int zp0, .int zp1, .int zp2] (fun v g2 u => v = some (.long (s_cell (ln, sz, ce) zp0 zp1 zp2).1) ∧ g = g2 ∧ CI g u (pc, lf) lw (cn, fr, to, hv, dy, an, af) (ln, sz, ce) tr (s_cell (ln, sz, ce) zp0 zp1 zp2).2 ∧ FrO 0 57 F u) := by
  refine CW.start rfl (Nat.le_of_ble_eq_true rfl) ?_
  intro p e s m args below meth c A ls hc hr hlocks hw hl
  have hl : lv_has ls 5 [(0, .ref (wad g 0)), (1, .int zp0), (2, .int zp1), (3, .int zp2)] := hl
  have hx := hc.1
  have hb := hc.2.1
  obtain ⟨hpc6, hpcm, hm6, hpc0, hper⟩ : PI g pc lf := hG.1
  have hlw : lw ≤ 2 := hG.2.1
  have hI : LI pc cn fr to hv dy an af := hG.2.2.1
  have hcn := hI.1
  have hSI : SI ln sz := hG.2.2.2
  have hPC : PC F pc lf := hC.1
  have hL : LC g F cn fr to hv dy an af := hC.2.2.1
  have hSC : SC F ln sz ce := hC.2.2.2.1
  refine lv_aload_n hx hb d_AP_cell_0 rfl (lv_at hl 0 rfl) ?_
  refine lv_iconst (v := nI 0) hx hb d_AP_cell_1 (by decide) ?_
  refine pf_AP_59 hc hw d_AP_cell_2 (fun H locs hw => ?_)
  have hC0 := CI_ft hC (nI 0)
  have hSC0 : SC _ ln sz ce := hC0.2.2.2.1
  refine lv_aload_n hx hb d_AP_cell_5 rfl (lv_at hl 0 rfl) ?_
  refine lv_iload_n hx hb d_AP_cell_6 rfl (lv_at hl 1 rfl) ?_
  by_cases zhs0 : rng zp0 0 3
  · obtain ⟨zj0, rfl, zj0_1, zj0_2⟩ := rng_nat zhs0 (by decide)
    have zj0_e := nI_tI (j := zj0) (by omega)
    have zj0_t := tn_nI (j := zj0) (by omega)
    unfold rng at zhs0
    have zj0_4 : zj0 < 4 := by omega
    refine kRV hc hw lk_AP_63 (As := [.int (nI zj0)]) (rest := []) (c_AP_sheetAt_y l D g _ zj0 zj0_4) (rc_AP hw) ⟨Nat.le_of_ble_eq_true rfl, Nat.le_of_ble_eq_true rfl⟩ ⟨Nat.le_refl _, Nat.le_refl _⟩ rfl hl rfl (Nat.le_of_ble_eq_true rfl) d_AP_cell_7 ?_
    refine lv_astore (lv' := [(4, .ref (wad g (2 * zj0 + 2))), (0, .ref (wad g 0)), (1, .int (nI zj0)), (2, .int zp1), (3, .int zp2)]) hx hb d_AP_cell_10 hl (by decide) rfl (fun ls hl => ?_)
    refine lv_aload hx hb d_AP_cell_12 (lv_at hl 0 rfl) ?_
    refine lv_ifnull hx hb d_AP_cell_14 ?_
    refine lv_iload_n hx hb d_AP_cell_17 rfl (lv_at hl 4 rfl) ?_
    refine lv_iconst (v := nI 0) hx hb d_AP_cell_18 (by decide) ?_
    refine lv_iconst (v := nI 2) hx hb d_AP_cell_19 (by decide) ?_
    refine kRS hc hw lk_AP_67 (As := [.int zp2, .int (nI 0), .int (nI 2)]) (rest := []) (c_AP_isWithin l D g _ (zp2) (nI 0) (nI 2) 0 2 (by decide) (by decide)) ⟨Nat.le_of_ble_eq_true rfl, Nat.le_of_ble_eq_true rfl⟩ ⟨Nat.le_refl _, Nat.le_refl _⟩ rfl hl rfl (Nat.le_of_ble_eq_true rfl) d_AP_cell_20 ?_
    refine b_if_ne (tgt := 30) hc d_AP_cell_23 (by decide) (fun c_1 => ?_) (fun c_1 => ?_)
    · obtain ⟨zj2, rfl, zj2_1, zj2_2⟩ := rng_nat c_1 (by decide)
      have zj2_e := nI_tI (j := zj2) (by omega)
      have zj2_t := tn_nI (j := zj2) (by omega)
      try unfold rng at c_1
      refine lv_aload_n hx hb d_AP_cell_30 rfl (lv_at hl 1 rfl) ?_
      refine lv_aload hx hb d_AP_cell_31 (lv_at hl 0 rfl) ?_
      refine lv_iload_n hx hb d_AP_cell_33 rfl (lv_at hl 4 rfl) ?_
      refine lv_iload_n hx hb d_AP_cell_34 rfl (lv_at hl 3 rfl) ?_
      refine lv_iconst (v := nI 1) hx hb d_AP_cell_35 (by decide) ?_
      refine kRV hc hw lk_AP_71 (As := [.int (nI zj2), .int zp1, .int (nI 1)]) (rest := [.ref (wad g 0)]) (c_RW_faultOfCells l D g _ zj0 zj0_4 (ln zj0) (hSI zj0 zj0_4).2 ((u2_h (by omega)).trans ((hSC zj0 zj0_4).1)) (sz zj0) (hSI zj0 zj0_4).1 ((u2_h (by omega)).trans ((hSC zj0 zj0_4).2.1)) (nI zj2) (zp1) (nI 1)) (rc_RW hw (zj0_4)) ⟨Nat.le_of_ble_eq_true rfl, Nat.le_of_ble_eq_true rfl⟩ ⟨Nat.le_refl _, Nat.le_refl _⟩ rfl hl rfl (Nat.le_of_ble_eq_true rfl) d_AP_cell_36 ?_
      refine pf_AP_59 hc hw d_AP_cell_39 (fun H locs hw => ?_)
      have hfl := flt_le (ln zj0) (sz zj0) (nI zj2) zp1 (nI 1)
      refine lv_aload_n hx hb d_AP_cell_42 rfl (lv_at hl 1 rfl) ?_
      refine gf_AP_59 hc hw d_AP_cell_43 (v := .int (nI (flt (ln zj0) (sz zj0) (nI zj2) zp1 (nI 1)))) (congrArg Value.int (u2_same _ _ _ _)) ?_
      refine q_if_ne (tgt := 60) hc (by omega) d_AP_cell_46 (by decide) (fun c_2 => ?_) (fun c_2 => ?_)
      · refine lv_ldc2 hx hb hc.2.2.2.1 (hc.2.2.2.2 _ g_538) d_AP_cell_60 ?_
        exact W_l hc hw hr hlocks (by refine ⟨congrArg (fun z => some (Value.long z)) ?_, rfl, ?_, (by repeat (first | exact FrO.rf _ _ _ | refine FrO.up ?_ (by omega) (by omega)))⟩; (unfold s_cell; (try simp only [inN, rng, zj0_t, zj0_e, zj2_t, zj2_e]); (repeat' split) <;> first | (exfalso; omega) | contradiction | rfl); (unfold s_cell; (try simp only [inN, rng, zj0_t, zj0_e, zj2_t, zj2_e]); (repeat' split) <;> first | (exfalso; omega) | contradiction | exact CI_ft hC0 _)) d_AP_cell_63
      · have hfz := c_2
        obtain ⟨hz1, hz2, hz3, hz4⟩ := flt_0 c_2
        obtain ⟨zj1, rfl, zj1_1, zj1_2⟩ := rng_nat hz3 (by decide)
        have hsz := (hSI zj0 zj0_4).1
        have zj1_e := nI_tI (j := zj1) (by omega)
        have zj1_t := tn_nI (j := zj1) (by omega)
        simp only [rng, zj1_e, show (nI 1).toInt = 1 from rfl] at hz4
        refine lv_aload hx hb d_AP_cell_49 (lv_at hl 0 rfl) ?_
        refine gf_AP_79 hc hw (k := zj0) (zj0_4) d_AP_cell_51 ?_
        refine lv_iload_n hx hb d_AP_cell_54 rfl (lv_at hl 3 rfl) ?_
        refine r_iald hc hw (h := 2 * zj0 + 3) (n := 40) (i := zj1) (fun f => wt_cells g (zj0_4) f) (by omega) (by omega) (by decide) d_AP_cell_55 (v := .int (ce zj0 zj1)) (congrArg Value.int ((u2_h (by omega)).trans ((u2_h (by omega)).trans ((hSC zj0 zj0_4).2.2 (zj1) (by omega))))) ?_
        refine lv_i2l (v := (ce zj0 zj1).toInt64) hx hb d_AP_cell_56 rfl ?_
        refine lv_goto (tgt := 63) hx hb d_AP_cell_57 (by decide) ?_
        exact W_l hc hw hr hlocks (by refine ⟨congrArg (fun z => some (Value.long z)) ?_, rfl, ?_, (by repeat (first | exact FrO.rf _ _ _ | refine FrO.up ?_ (by omega) (by omega)))⟩; (unfold s_cell; (try simp only [inN, rng, zj0_t, zj0_e, zj2_t, zj2_e, zj1_t, zj1_e]); (repeat' split) <;> first | (exfalso; omega) | contradiction | rfl); (unfold s_cell; (try simp only [inN, rng, zj0_t, zj0_e, zj2_t, zj2_e, zj1_t, zj1_e]); (repeat' split) <;> first | (exfalso; omega) | contradiction | (rw [hfz]; exact CI_ft hC0 _))) d_AP_cell_63
    · try unfold rng at c_1
      refine lv_ldc2 hx hb hc.2.2.2.1 (hc.2.2.2.2 _ g_538) d_AP_cell_26 ?_
      exact W_l hc hw hr hlocks (by refine ⟨congrArg (fun z => some (Value.long z)) ?_, rfl, ?_, (by repeat (first | exact FrO.rf _ _ _ | refine FrO.up ?_ (by omega) (by omega)))⟩; (unfold s_cell; (try simp only [inN, rng, zj0_t, zj0_e]); (repeat' split) <;> first | (exfalso; omega) | contradiction | rfl); (unfold s_cell; (try simp only [inN, rng, zj0_t, zj0_e]); (repeat' split) <;> first | (exfalso; omega) | contradiction | exact hC0)) d_AP_cell_29
  · refine kRV hc hw lk_AP_63 (As := [.int zp0]) (rest := []) (c_AP_sheetAt_n l D g _ zp0 zhs0) (rc_AP hw) ⟨Nat.le_of_ble_eq_true rfl, Nat.le_of_ble_eq_true rfl⟩ ⟨Nat.le_refl _, Nat.le_refl _⟩ rfl hl rfl (Nat.le_of_ble_eq_true rfl) d_AP_cell_7 ?_
    unfold rng at zhs0
    refine lv_astoreN (lv' := [(4, .null), (0, .ref (wad g 0)), (1, .int zp0), (2, .int zp1), (3, .int zp2)]) hx hb d_AP_cell_10 hl (by decide) rfl (fun ls hl => ?_)
    refine lv_aloadN hx hb d_AP_cell_12 (lv_at hl 0 rfl) ?_
    refine lv_ifnullN (tgt := 26) hx hb d_AP_cell_14 (by decide) ?_
    refine lv_ldc2 hx hb hc.2.2.2.1 (hc.2.2.2.2 _ g_538) d_AP_cell_26 ?_
    exact W_l hc hw hr hlocks (by refine ⟨congrArg (fun z => some (Value.long z)) ?_, rfl, ?_, (by repeat (first | exact FrO.rf _ _ _ | refine FrO.up ?_ (by omega) (by omega)))⟩; (unfold s_cell; (try simp only [inN, rng]); (repeat' split) <;> first | (exfalso; omega) | contradiction | rfl); (unfold s_cell; (try simp only [inN, rng]); (repeat' split) <;> first | (exfalso; omega) | contradiction | exact hC0)) d_AP_cell_29
set_option maxHeartbeats 4000000 in
theorem c_AP_copy (l : Launch) (D : va_G) (g : wG) (F : wF) (pc : Nat) (lf : Nat → Nat) (lw : Nat) (cn : Nat) (fr to hv dy : Nat → Nat) (an af : Nat → Option Nat) (ln : Nat → Option Nat) (sz : Nat → Nat) (ce : Nat → Nat → Int32) (tr ft : Int32) (hG : GI g (pc, lf) lw (cn, fr, to, hv, dy, an, af) (ln, sz, ce)) (hC : CI g F (pc, lf) lw (cn, fr, to, hv, dy, an, af) (ln, sz, ce) tr ft) (zp0 zp1 zp2 zp3 zp4 : Int32) : CW l y_AP_copy b_AP_copy 8 (Option.some Jvm.ClassFile.FieldType.int) 3 0 0 D g F [.ref (wad g 0), .int zp0, .int zp1, .int zp2, .int zp3, .int zp4] (fun v g2 u => v = some (.int (s_copy (ln, sz, ce) zp0 zp1 zp2 zp3 zp4).1) ∧ g = g2 ∧ CI g u (pc, lf) lw (cn, fr, to, hv, dy, an, af) (s_copy (ln, sz, ce) zp0 zp1 zp2 zp3 zp4).2.1 tr (s_copy (ln, sz, ce) zp0 zp1 zp2 zp3 zp4).2.2 ∧ FrO 0 57 F u) := by
  refine CW.start rfl (Nat.le_of_ble_eq_true rfl) ?_
  intro p e s m args below meth c A ls hc hr hlocks hw hl
  have hl : lv_has ls 8 [(0, .ref (wad g 0)), (1, .int zp0), (2, .int zp1), (3, .int zp2), (4, .int zp3), (5, .int zp4)] := hl
  have hx := hc.1
  have hb := hc.2.1
  obtain ⟨hpc6, hpcm, hm6, hpc0, hper⟩ : PI g pc lf := hG.1
  have hlw : lw ≤ 2 := hG.2.1
  have hI : LI pc cn fr to hv dy an af := hG.2.2.1
  have hcn := hI.1
  have hSI : SI ln sz := hG.2.2.2
  have hPC : PC F pc lf := hC.1
  have hL : LC g F cn fr to hv dy an af := hC.2.2.1
  have hSC : SC F ln sz ce := hC.2.2.2.1
  refine lv_aload_n hx hb d_AP_copy_0 rfl (lv_at hl 0 rfl) ?_
  refine lv_iconst (v := nI 0) hx hb d_AP_copy_1 (by decide) ?_
  refine pf_AP_59 hc hw d_AP_copy_2 (fun H locs hw => ?_)
  have hC0 := CI_ft hC (nI 0)
  have hSC0 : SC _ ln sz ce := hC0.2.2.2.1
  refine lv_aload_n hx hb d_AP_copy_5 rfl (lv_at hl 0 rfl) ?_
  refine lv_iload_n hx hb d_AP_copy_6 rfl (lv_at hl 1 rfl) ?_
  by_cases zhs0 : rng zp0 0 3
  · obtain ⟨zj0, rfl, zj0_1, zj0_2⟩ := rng_nat zhs0 (by decide)
    have zj0_e := nI_tI (j := zj0) (by omega)
    have zj0_t := tn_nI (j := zj0) (by omega)
    unfold rng at zhs0
    have zj0_4 : zj0 < 4 := by omega
    refine kRV hc hw lk_AP_63 (As := [.int (nI zj0)]) (rest := []) (c_AP_sheetAt_y l D g _ zj0 zj0_4) (rc_AP hw) ⟨Nat.le_of_ble_eq_true rfl, Nat.le_of_ble_eq_true rfl⟩ ⟨Nat.le_refl _, Nat.le_refl _⟩ rfl hl rfl (Nat.le_of_ble_eq_true rfl) d_AP_copy_7 ?_
    refine lv_astore (lv' := [(6, .ref (wad g (2 * zj0 + 2))), (0, .ref (wad g 0)), (1, .int (nI zj0)), (2, .int zp1), (3, .int zp2), (4, .int zp3), (5, .int zp4)]) hx hb d_AP_copy_10 hl (by decide) rfl (fun ls hl => ?_)
    refine lv_aload_n hx hb d_AP_copy_12 rfl (lv_at hl 1 rfl) ?_
    refine lv_iload_n hx hb d_AP_copy_13 rfl (lv_at hl 4 rfl) ?_
    by_cases zhs2 : rng zp2 0 3
    · obtain ⟨zj2, rfl, zj2_1, zj2_2⟩ := rng_nat zhs2 (by decide)
      have zj2_e := nI_tI (j := zj2) (by omega)
      have zj2_t := tn_nI (j := zj2) (by omega)
      unfold rng at zhs2
      have zj2_4 : zj2 < 4 := by omega
      refine kRV hc hw lk_AP_63 (As := [.int (nI zj2)]) (rest := []) (c_AP_sheetAt_y l D g _ zj2 zj2_4) (rc_AP hw) ⟨Nat.le_of_ble_eq_true rfl, Nat.le_of_ble_eq_true rfl⟩ ⟨Nat.le_refl _, Nat.le_refl _⟩ rfl hl rfl (Nat.le_of_ble_eq_true rfl) d_AP_copy_14 ?_
      refine lv_astore (lv' := [(7, .ref (wad g (2 * zj2 + 2))), (6, .ref (wad g (2 * zj0 + 2))), (0, .ref (wad g 0)), (1, .int (nI zj0)), (2, .int zp1), (3, .int (nI zj2)), (4, .int zp3), (5, .int zp4)]) hx hb d_AP_copy_17 hl (by decide) rfl (fun ls hl => ?_)
      refine lv_aload hx hb d_AP_copy_19 (lv_at hl 1 rfl) ?_
      refine lv_ifnull hx hb d_AP_copy_21 ?_
      refine lv_aload hx hb d_AP_copy_24 (lv_at hl 0 rfl) ?_
      refine lv_ifnonnull (tgt := 31) hx hb d_AP_copy_26 (by decide) ?_
      refine lv_aload hx hb d_AP_copy_31 (lv_at hl 1 rfl) ?_
      refine kRV hc hw lk_AP_221 (As := []) (rest := []) (c_RW_isNothing l D g _ zj0 zj0_4 (ln zj0) (hSI zj0 zj0_4).2 ((u2_h (by omega)).trans ((hSC zj0 zj0_4).1))) (rc_RW hw (zj0_4)) ⟨Nat.le_of_ble_eq_true rfl, Nat.le_of_ble_eq_true rfl⟩ ⟨Nat.le_refl _, Nat.le_refl _⟩ rfl hl rfl (Nat.le_of_ble_eq_true rfl) d_AP_copy_33 ?_
      refine b_if_ne (tgt := 47) hc d_AP_copy_36 (by decide) (fun c_1 => ?_) (fun c_1 => ?_)
      · refine lv_aload_n hx hb d_AP_copy_47 rfl (lv_at hl 2 rfl) ?_
        refine lv_iconst (v := nI 1) hx hb d_AP_copy_48 (by decide) ?_
        refine kWV hc hw lk_AP_75 (h := 0) (As := [.int (nI 1)]) (rest := []) (c_AP_faulted l D g _ 1) (rc_AP hw) ⟨Nat.le_of_ble_eq_true rfl, Nat.le_of_ble_eq_true rfl⟩ ⟨Nat.le_refl _, Nat.le_refl _⟩ rfl hl rfl (Nat.le_of_ble_eq_true rfl) d_AP_copy_49 (fun v_2 g_3 F_4 H locs zhp_5 hw => ?_)
        obtain ⟨rfl, rfl, rfl⟩ := zhp_5
        exact W_i hc hw hr hlocks (by refine ⟨congrArg (fun z => some (Value.int z)) ?_, rfl, ?_, (by repeat (first | exact FrO.rf _ _ _ | refine FrO.up ?_ (by omega) (by omega)))⟩; (unfold s_copy; (try simp only [inN, rng, zj0_t, zj0_e, zj2_t, zj2_e]); (repeat' split) <;> first | (exfalso; omega) | contradiction | rfl); (unfold s_copy; (try simp only [inN, rng, zj0_t, zj0_e, zj2_t, zj2_e]); (repeat' split) <;> first | (exfalso; omega) | contradiction | exact CI_ft hC0 _)) d_AP_copy_52
      · refine lv_aload hx hb d_AP_copy_39 (lv_at hl 0 rfl) ?_
        refine kRV hc hw lk_AP_221 (As := []) (rest := []) (c_RW_isNothing l D g _ zj2 zj2_4 (ln zj2) (hSI zj2 zj2_4).2 ((u2_h (by omega)).trans ((hSC zj2 zj2_4).1))) (rc_RW hw (zj2_4)) ⟨Nat.le_of_ble_eq_true rfl, Nat.le_of_ble_eq_true rfl⟩ ⟨Nat.le_refl _, Nat.le_refl _⟩ rfl hl rfl (Nat.le_of_ble_eq_true rfl) d_AP_copy_41 ?_
        refine b_if_eq (tgt := 53) hc d_AP_copy_44 (by decide) (fun c_6 => ?_) (fun c_6 => ?_)
        · refine lv_aload hx hb d_AP_copy_53 (lv_at hl 1 rfl) ?_
          refine gf_AP_224 hc hw (k := zj0) (zj0_4) d_AP_copy_55 (v := .int (mI (ln zj0))) (congrArg Value.int ((u2_h (by omega)).trans ((hSC zj0 zj0_4).1))) ?_
          refine lv_aload hx hb d_AP_copy_58 (lv_at hl 0 rfl) ?_
          refine gf_AP_224 hc hw (k := zj2) (zj2_4) d_AP_copy_60 (v := .int (mI (ln zj2))) (congrArg Value.int ((u2_h (by omega)).trans ((hSC zj2 zj2_4).1))) ?_
          refine u_icmp_eq (tgt := 72) (X := (mI (ln zj0)).toInt) (Y := (mI (ln zj2)).toInt) hc (rfl) (rfl) d_AP_copy_63 (by decide) (fun c_7 => ?_) (fun c_7 => ?_)
          · have hlq : ln zj0 = ln zj2 := mI_inj (hSI zj0 zj0_4).2 (hSI zj2 zj2_4).2 c_7
            refine lv_aload hx hb d_AP_copy_72 (lv_at hl 1 rfl) ?_
            refine lv_iload_n hx hb d_AP_copy_74 rfl (lv_at hl 4 rfl) ?_
            refine lv_iload hx hb d_AP_copy_75 (lv_at hl 7 rfl) ?_
            refine kRV hc hw lk_AP_227 (As := [.int zp1, .int zp4]) (rest := []) (c_RW_hasCells l D g _ zj0 zj0_4 (sz zj0) (hSI zj0 zj0_4).1 ((u2_h (by omega)).trans ((hSC zj0 zj0_4).2.1)) (zp1) (zp4)) (rc_RW hw (zj0_4)) ⟨Nat.le_of_ble_eq_true rfl, Nat.le_of_ble_eq_true rfl⟩ ⟨Nat.le_refl _, Nat.le_refl _⟩ rfl hl rfl (Nat.le_of_ble_eq_true rfl) d_AP_copy_77 ?_
            refine b_if_eq (tgt := 95) hc d_AP_copy_80 (by decide) (fun c_8 => ?_) (fun c_8 => ?_)
            · simp only [rng] at c_8
              refine lv_aload_n hx hb d_AP_copy_95 rfl (lv_at hl 2 rfl) ?_
              refine lv_iconst (v := nI 3) hx hb d_AP_copy_96 (by decide) ?_
              refine kWV hc hw lk_AP_75 (h := 0) (As := [.int (nI 3)]) (rest := []) (c_AP_faulted l D g _ 3) (rc_AP hw) ⟨Nat.le_of_ble_eq_true rfl, Nat.le_of_ble_eq_true rfl⟩ ⟨Nat.le_refl _, Nat.le_refl _⟩ rfl hl rfl (Nat.le_of_ble_eq_true rfl) d_AP_copy_97 (fun v_9 g_10 F_11 H locs zhp_12 hw => ?_)
              obtain ⟨rfl, rfl, rfl⟩ := zhp_12
              exact W_i hc hw hr hlocks (by refine ⟨congrArg (fun z => some (Value.int z)) ?_, rfl, ?_, (by repeat (first | exact FrO.rf _ _ _ | refine FrO.up ?_ (by omega) (by omega)))⟩; (unfold s_copy; (try simp only [inN, rng, zj0_t, zj0_e, zj2_t, zj2_e]); (repeat' split) <;> first | (exfalso; omega) | contradiction | rfl); (unfold s_copy; (try simp only [inN, rng, zj0_t, zj0_e, zj2_t, zj2_e]); (repeat' split) <;> first | (exfalso; omega) | contradiction | exact CI_ft hC0 _)) d_AP_copy_100
            · obtain ⟨zj1, rfl, zj1_1, zj1_2⟩ := rng_nat c_8.1 (by decide)
              have hsz0 := (hSI zj0 zj0_4).1
              have zj1_e := nI_tI (j := zj1) (by omega)
              have zj1_t := tn_nI (j := zj1) (by omega)
              obtain ⟨zj4, rfl, zj4_1, zj4_2⟩ := rng_nat c_8.2 (by decide)
              rw [zj1_e] at zj4_2
              have zj4_e := nI_tI (j := zj4) (by omega)
              have zj4_t := tn_nI (j := zj4) (by omega)
              simp only [rng, zj1_e, zj4_e] at c_8
              refine lv_aload hx hb d_AP_copy_83 (lv_at hl 0 rfl) ?_
              refine lv_iload hx hb d_AP_copy_85 (lv_at hl 6 rfl) ?_
              refine lv_iload hx hb d_AP_copy_87 (lv_at hl 7 rfl) ?_
              refine kRV hc hw lk_AP_227 (As := [.int zp3, .int (nI zj4)]) (rest := []) (c_RW_hasCells l D g _ zj2 zj2_4 (sz zj2) (hSI zj2 zj2_4).1 ((u2_h (by omega)).trans ((hSC zj2 zj2_4).2.1)) (zp3) (nI zj4)) (rc_RW hw (zj2_4)) ⟨Nat.le_of_ble_eq_true rfl, Nat.le_of_ble_eq_true rfl⟩ ⟨Nat.le_refl _, Nat.le_refl _⟩ rfl hl rfl (Nat.le_of_ble_eq_true rfl) d_AP_copy_89 ?_
              refine b_if_ne (tgt := 101) hc d_AP_copy_92 (by decide) (fun c_13 => ?_) (fun c_13 => ?_)
              · obtain ⟨zj3, rfl, zj3_1, zj3_2⟩ := rng_nat c_13.1 (by decide)
                have hsz2 := (hSI zj2 zj2_4).1
                have zj3_e := nI_tI (j := zj3) (by omega)
                have zj3_t := tn_nI (j := zj3) (by omega)
                simp only [rng, zj3_e, zj4_e] at c_13
                refine lv_aload hx hb d_AP_copy_101 (lv_at hl 1 rfl) ?_
                refine gf_AP_79 hc hw (k := zj0) (zj0_4) d_AP_copy_103 ?_
                refine lv_iload_n hx hb d_AP_copy_106 rfl (lv_at hl 4 rfl) ?_
                refine lv_aload hx hb d_AP_copy_107 (lv_at hl 0 rfl) ?_
                refine gf_AP_79 hc hw (k := zj2) (zj2_4) d_AP_copy_109 ?_
                refine lv_iload hx hb d_AP_copy_112 (lv_at hl 6 rfl) ?_
                refine lv_iload hx hb d_AP_copy_114 (lv_at hl 7 rfl) ?_
                refine r_copy hc hw (a := zj0) (b := zj2) (i := zj1) (j := zj3) (n := zj4) zj0_4 zj2_4 (by omega) (by omega) hl ⟨Nat.le_of_ble_eq_true rfl, Nat.le_of_ble_eq_true rfl⟩ d_AP_copy_116 (fun H locs hw => ?_)
                refine lv_iload hx hb d_AP_copy_119 (lv_at hl 7 rfl) ?_
                exact W_i hc hw hr hlocks (by refine ⟨congrArg (fun z => some (Value.int z)) ?_, rfl, ?_, ((FrO.up (FrO.rf 0 57 F) (by decide) (by decide)).tr (fun h hh => funext fun z => if_neg (by omega)))⟩; (unfold s_copy; (try simp only [inN, rng, zj0_t, zj0_e, zj2_t, zj2_e, zj1_t, zj1_e, zj4_t, zj4_e, zj3_t, zj3_e]); (repeat' split) <;> first | (exfalso; omega) | contradiction | rfl); (unfold s_copy; (try simp only [inN, rng, zj0_t, zj0_e, zj2_t, zj2_e, zj1_t, zj1_e, zj4_t, zj4_e, zj3_t, zj3_e]); (repeat' split) <;> first | (exfalso; omega) | contradiction | exact CI_S (S2 := (_, _, _)) hC0 (SC_cp hSC0 zj0_4 zj2_4 (by omega)) (fun h hh => funext fun z => if_neg (by omega)))) d_AP_copy_121
              · simp only [rng, zj4_e] at c_13
                refine lv_aload_n hx hb d_AP_copy_95 rfl (lv_at hl 2 rfl) ?_
                refine lv_iconst (v := nI 3) hx hb d_AP_copy_96 (by decide) ?_
                refine kWV hc hw lk_AP_75 (h := 0) (As := [.int (nI 3)]) (rest := []) (c_AP_faulted l D g _ 3) (rc_AP hw) ⟨Nat.le_of_ble_eq_true rfl, Nat.le_of_ble_eq_true rfl⟩ ⟨Nat.le_refl _, Nat.le_refl _⟩ rfl hl rfl (Nat.le_of_ble_eq_true rfl) d_AP_copy_97 (fun v_14 g_15 F_16 H locs zhp_17 hw => ?_)
                obtain ⟨rfl, rfl, rfl⟩ := zhp_17
                exact W_i hc hw hr hlocks (by refine ⟨congrArg (fun z => some (Value.int z)) ?_, rfl, ?_, (by repeat (first | exact FrO.rf _ _ _ | refine FrO.up ?_ (by omega) (by omega)))⟩; (unfold s_copy; (try simp only [inN, rng, zj0_t, zj0_e, zj2_t, zj2_e, zj1_t, zj1_e, zj4_t, zj4_e]); (repeat' split) <;> first | (exfalso; omega) | contradiction | rfl); (unfold s_copy; (try simp only [inN, rng, zj0_t, zj0_e, zj2_t, zj2_e, zj1_t, zj1_e, zj4_t, zj4_e]); (repeat' split) <;> first | (exfalso; omega) | contradiction | exact CI_ft hC0 _)) d_AP_copy_100
          · have hlq : ¬ ln zj0 = ln zj2 := fun q => c_7 (by rw [q])
            refine lv_aload_n hx hb d_AP_copy_66 rfl (lv_at hl 2 rfl) ?_
            refine lv_iconst (v := nI 2) hx hb d_AP_copy_67 (by decide) ?_
            refine kWV hc hw lk_AP_75 (h := 0) (As := [.int (nI 2)]) (rest := []) (c_AP_faulted l D g _ 2) (rc_AP hw) ⟨Nat.le_of_ble_eq_true rfl, Nat.le_of_ble_eq_true rfl⟩ ⟨Nat.le_refl _, Nat.le_refl _⟩ rfl hl rfl (Nat.le_of_ble_eq_true rfl) d_AP_copy_68 (fun v_18 g_19 F_20 H locs zhp_21 hw => ?_)
            obtain ⟨rfl, rfl, rfl⟩ := zhp_21
            exact W_i hc hw hr hlocks (by refine ⟨congrArg (fun z => some (Value.int z)) ?_, rfl, ?_, (by repeat (first | exact FrO.rf _ _ _ | refine FrO.up ?_ (by omega) (by omega)))⟩; (unfold s_copy; (try simp only [inN, rng, zj0_t, zj0_e, zj2_t, zj2_e]); (repeat' split) <;> first | (exfalso; omega) | contradiction | rfl); (unfold s_copy; (try simp only [inN, rng, zj0_t, zj0_e, zj2_t, zj2_e]); (repeat' split) <;> first | (exfalso; omega) | contradiction | exact CI_ft hC0 _)) d_AP_copy_71
        · refine lv_aload_n hx hb d_AP_copy_47 rfl (lv_at hl 2 rfl) ?_
          refine lv_iconst (v := nI 1) hx hb d_AP_copy_48 (by decide) ?_
          refine kWV hc hw lk_AP_75 (h := 0) (As := [.int (nI 1)]) (rest := []) (c_AP_faulted l D g _ 1) (rc_AP hw) ⟨Nat.le_of_ble_eq_true rfl, Nat.le_of_ble_eq_true rfl⟩ ⟨Nat.le_refl _, Nat.le_refl _⟩ rfl hl rfl (Nat.le_of_ble_eq_true rfl) d_AP_copy_49 (fun v_22 g_23 F_24 H locs zhp_25 hw => ?_)
          obtain ⟨rfl, rfl, rfl⟩ := zhp_25
          exact W_i hc hw hr hlocks (by refine ⟨congrArg (fun z => some (Value.int z)) ?_, rfl, ?_, (by repeat (first | exact FrO.rf _ _ _ | refine FrO.up ?_ (by omega) (by omega)))⟩; (unfold s_copy; (try simp only [inN, rng, zj0_t, zj0_e, zj2_t, zj2_e]); (repeat' split) <;> first | (exfalso; omega) | contradiction | rfl); (unfold s_copy; (try simp only [inN, rng, zj0_t, zj0_e, zj2_t, zj2_e]); (repeat' split) <;> first | (exfalso; omega) | contradiction | exact CI_ft hC0 _)) d_AP_copy_52
    · refine kRV hc hw lk_AP_63 (As := [.int zp2]) (rest := []) (c_AP_sheetAt_n l D g _ zp2 zhs2) (rc_AP hw) ⟨Nat.le_of_ble_eq_true rfl, Nat.le_of_ble_eq_true rfl⟩ ⟨Nat.le_refl _, Nat.le_refl _⟩ rfl hl rfl (Nat.le_of_ble_eq_true rfl) d_AP_copy_14 ?_
      unfold rng at zhs2
      refine lv_astoreN (lv' := [(7, .null), (6, .ref (wad g (2 * zj0 + 2))), (0, .ref (wad g 0)), (1, .int (nI zj0)), (2, .int zp1), (3, .int zp2), (4, .int zp3), (5, .int zp4)]) hx hb d_AP_copy_17 hl (by decide) rfl (fun ls hl => ?_)
      refine lv_aload hx hb d_AP_copy_19 (lv_at hl 1 rfl) ?_
      refine lv_ifnull hx hb d_AP_copy_21 ?_
      refine lv_aloadN hx hb d_AP_copy_24 (lv_at hl 0 rfl) ?_
      refine lv_ifnonnullN hx hb d_AP_copy_26 ?_
      refine lv_iconst (v := (-1)) hx hb d_AP_copy_29 (by decide) ?_
      exact W_i hc hw hr hlocks (by refine ⟨congrArg (fun z => some (Value.int z)) ?_, rfl, ?_, (by repeat (first | exact FrO.rf _ _ _ | refine FrO.up ?_ (by omega) (by omega)))⟩; (unfold s_copy; (try simp only [inN, rng, zj0_t, zj0_e]); (repeat' split) <;> first | (exfalso; omega) | contradiction | rfl); (unfold s_copy; (try simp only [inN, rng, zj0_t, zj0_e]); (repeat' split) <;> first | (exfalso; omega) | contradiction | exact hC0)) d_AP_copy_30
  · refine kRV hc hw lk_AP_63 (As := [.int zp0]) (rest := []) (c_AP_sheetAt_n l D g _ zp0 zhs0) (rc_AP hw) ⟨Nat.le_of_ble_eq_true rfl, Nat.le_of_ble_eq_true rfl⟩ ⟨Nat.le_refl _, Nat.le_refl _⟩ rfl hl rfl (Nat.le_of_ble_eq_true rfl) d_AP_copy_7 ?_
    unfold rng at zhs0
    refine lv_astoreN (lv' := [(6, .null), (0, .ref (wad g 0)), (1, .int zp0), (2, .int zp1), (3, .int zp2), (4, .int zp3), (5, .int zp4)]) hx hb d_AP_copy_10 hl (by decide) rfl (fun ls hl => ?_)
    refine lv_aload_n hx hb d_AP_copy_12 rfl (lv_at hl 1 rfl) ?_
    refine lv_iload_n hx hb d_AP_copy_13 rfl (lv_at hl 4 rfl) ?_
    by_cases zhs2 : rng zp2 0 3
    · obtain ⟨zj2, rfl, zj2_1, zj2_2⟩ := rng_nat zhs2 (by decide)
      have zj2_e := nI_tI (j := zj2) (by omega)
      have zj2_t := tn_nI (j := zj2) (by omega)
      unfold rng at zhs2
      have zj2_4 : zj2 < 4 := by omega
      refine kRV hc hw lk_AP_63 (As := [.int (nI zj2)]) (rest := []) (c_AP_sheetAt_y l D g _ zj2 zj2_4) (rc_AP hw) ⟨Nat.le_of_ble_eq_true rfl, Nat.le_of_ble_eq_true rfl⟩ ⟨Nat.le_refl _, Nat.le_refl _⟩ rfl hl rfl (Nat.le_of_ble_eq_true rfl) d_AP_copy_14 ?_
      refine lv_astore (lv' := [(7, .ref (wad g (2 * zj2 + 2))), (6, .null), (0, .ref (wad g 0)), (1, .int zp0), (2, .int zp1), (3, .int (nI zj2)), (4, .int zp3), (5, .int zp4)]) hx hb d_AP_copy_17 hl (by decide) rfl (fun ls hl => ?_)
      refine lv_aloadN hx hb d_AP_copy_19 (lv_at hl 1 rfl) ?_
      refine lv_ifnullN (tgt := 29) hx hb d_AP_copy_21 (by decide) ?_
      refine lv_iconst (v := (-1)) hx hb d_AP_copy_29 (by decide) ?_
      exact W_i hc hw hr hlocks (by refine ⟨congrArg (fun z => some (Value.int z)) ?_, rfl, ?_, (by repeat (first | exact FrO.rf _ _ _ | refine FrO.up ?_ (by omega) (by omega)))⟩; (unfold s_copy; (try simp only [inN, rng, zj2_t, zj2_e]); (repeat' split) <;> first | (exfalso; omega) | contradiction | rfl); (unfold s_copy; (try simp only [inN, rng, zj2_t, zj2_e]); (repeat' split) <;> first | (exfalso; omega) | contradiction | exact hC0)) d_AP_copy_30
    · refine kRV hc hw lk_AP_63 (As := [.int zp2]) (rest := []) (c_AP_sheetAt_n l D g _ zp2 zhs2) (rc_AP hw) ⟨Nat.le_of_ble_eq_true rfl, Nat.le_of_ble_eq_true rfl⟩ ⟨Nat.le_refl _, Nat.le_refl _⟩ rfl hl rfl (Nat.le_of_ble_eq_true rfl) d_AP_copy_14 ?_
      unfold rng at zhs2
      refine lv_astoreN (lv' := [(7, .null), (6, .null), (0, .ref (wad g 0)), (1, .int zp0), (2, .int zp1), (3, .int zp2), (4, .int zp3), (5, .int zp4)]) hx hb d_AP_copy_17 hl (by decide) rfl (fun ls hl => ?_)
      refine lv_aloadN hx hb d_AP_copy_19 (lv_at hl 1 rfl) ?_
      refine lv_ifnullN (tgt := 29) hx hb d_AP_copy_21 (by decide) ?_
      refine lv_iconst (v := (-1)) hx hb d_AP_copy_29 (by decide) ?_
      exact W_i hc hw hr hlocks (by refine ⟨congrArg (fun z => some (Value.int z)) ?_, rfl, ?_, (by repeat (first | exact FrO.rf _ _ _ | refine FrO.up ?_ (by omega) (by omega)))⟩; (unfold s_copy; (try simp only [inN, rng]); (repeat' split) <;> first | (exfalso; omega) | contradiction | rfl); (unfold s_copy; (try simp only [inN, rng]); (repeat' split) <;> first | (exfalso; omega) | contradiction | exact hC0)) d_AP_copy_30
