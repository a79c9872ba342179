/-! printed by wip/gen/meths9.py: the model, weights and sheets -/
set_option maxHeartbeats 4000000 in
theorem c_MO_weights (l : Launch) (D : va_G) (g : wG) (F : wF) (pc : Nat) (lf : Nat → Nat) (lw : Nat) (cn : Nat) (fr to hv dy : Nat → Nat) (an af : Nat → Option Nat) (ln : Nat → Option Nat) (sz : Nat → Nat) (ce : Nat → Nat → Int32) (tr ft : Int32) (hG : GI g (pc, lf) lw (cn, fr, to, hv, dy, an, af) (ln, sz, ce)) (hMI : MI g F (pc, lf) lw (cn, fr, to, hv, dy, an, af) (ln, sz, ce) tr ft) (zp0 zp1 zp2 zp3 zp4 : Int32) : CW l y_MO_weights b_MO_weights 11 (Option.some Jvm.ClassFile.FieldType.int) 5 0 0 D g F [.ref (wad g 58), .int zp0, .int zp1, .int zp2, .int zp3, .int zp4] (fun v g2 u => v = some (.int (s_weights (wK g) (pc, lf) lw (cn, fr, to, hv, dy, an, af) zp0 zp1 zp2 zp3 zp4)) ∧ g = g2 ∧ MI g u (pc, lf) lw (cn, fr, to, hv, dy, an, af) (ln, sz, ce) tr ft ∧ FrO 58 78 F u) := by
  refine CW.start rfl (Nat.le_of_ble_eq_true rfl) ?_
  intro p e s m args below meth c A ls hc hr hlocks hw hl
  have hl : lv_has ls 11 [(0, .ref (wad g 58)), (1, .int zp0), (2, .int zp1), (3, .int zp2), (4, .int zp3), (5, .int zp4)] := hl
  have hx := hc.1
  have hb := hc.2.1
  obtain ⟨hpc6, hpcm, hm6, hpc0, hper⟩ : PI g pc lf := hG.1
  have hlw : lw ≤ 2 := hG.2.1
  have hI : LI pc cn fr to hv dy an af := hG.2.2.1
  have hcn := hI.1
  have hSI : SI ln sz := hG.2.2.2
  have hPM : PM g F pc lf := hMI.1
  have hM : LM F cn fr to hv dy an af := hMI.2.2.1
  have hSM : SM F ln sz ce := hMI.2.2.2.1
  have hK : ∀ q, q < pc → F 62 q = nI (wK g q) ∧ wK g q ≤ 2 := fun q hq => ⟨(hPM.2 q hq).1, (hper q hq).1⟩
  refine lv_aload_n hx hb d_MO_weights_0 rfl (lv_at hl 0 rfl) ?_
  refine lv_iload_n hx hb d_MO_weights_1 rfl (lv_at hl 1 rfl) ?_
  refine kRV hc hw lk_MO_130 (As := [.int zp0]) (rest := []) (c_MO_isLetter l D g _ cn (hM.1) hcn (zp0)) (rc_MO hw) ⟨Nat.le_of_ble_eq_true rfl, Nat.le_of_ble_eq_true rfl⟩ ⟨Nat.le_refl _, Nat.le_refl _⟩ rfl hl rfl (Nat.le_of_ble_eq_true rfl) d_MO_weights_2 ?_
  refine b_if_eq (tgt := 22) hc d_MO_weights_5 (by decide) (fun c_1 => ?_) (fun c_1 => ?_)
  · try unfold inN at c_1
    refine lv_iconst (v := (-1)) hx hb d_MO_weights_22 (by decide) ?_
    exact W_i hc hw hr hlocks (by refine ⟨congrArg (fun z => some (Value.int z)) ?_, rfl, hMI, FrO.rf _ _ _⟩; unfold s_weights; (try simp only [inN, rng]); (repeat' split) <;> first | (exfalso; omega) | contradiction | rfl) d_MO_weights_23
  · obtain ⟨zj0, rfl, zj0_1⟩ := inN_nat c_1
    have zj0_e := nI_tI (j := zj0) (by omega)
    have zj0_t := tn_nI (j := zj0) (by omega)
    try unfold inN at c_1
    refine lv_aload_n hx hb d_MO_weights_8 rfl (lv_at hl 0 rfl) ?_
    refine lv_iload_n hx hb d_MO_weights_9 rfl (lv_at hl 2 rfl) ?_
    refine kRV hc hw lk_MO_116 (As := [.int zp1]) (rest := []) (c_MO_isPerson l D g _ pc (hPM.1) hpc6 (zp1)) (rc_MO hw) ⟨Nat.le_of_ble_eq_true rfl, Nat.le_of_ble_eq_true rfl⟩ ⟨Nat.le_refl _, Nat.le_refl _⟩ rfl hl rfl (Nat.le_of_ble_eq_true rfl) d_MO_weights_10 ?_
    refine b_if_eq (tgt := 22) hc d_MO_weights_13 (by decide) (fun c_2 => ?_) (fun c_2 => ?_)
    · try unfold inN at c_2
      refine lv_iconst (v := (-1)) hx hb d_MO_weights_22 (by decide) ?_
      exact W_i hc hw hr hlocks (by refine ⟨congrArg (fun z => some (Value.int z)) ?_, rfl, hMI, FrO.rf _ _ _⟩; unfold s_weights; (try simp only [inN, rng, zj0_t, zj0_e]); (repeat' split) <;> first | (exfalso; omega) | contradiction | rfl) d_MO_weights_23
    · obtain ⟨zj1, rfl, zj1_1⟩ := inN_nat c_2
      have zj1_e := nI_tI (j := zj1) (by omega)
      have zj1_t := tn_nI (j := zj1) (by omega)
      try unfold inN at c_2
      refine lv_iload hx hb d_MO_weights_16 (lv_at hl 5 rfl) ?_
      refine lv_iconst (v := (-1)) hx hb d_MO_weights_18 (by decide) ?_
      refine u_icmp_ge (tgt := 24) (X := (zp4).toInt) (Y := (-1)) hc (rfl) (by decide) d_MO_weights_19 (by decide) (fun c_3 => ?_) (fun c_3 => ?_)
      · refine lv_iload_n hx hb d_MO_weights_24 rfl (lv_at hl 3 rfl) ?_
        refine kRS hc hw lk_MO_123 (As := [.int zp2]) (rest := []) (c_MO_isDay l D g _ (zp2)) ⟨Nat.le_of_ble_eq_true rfl, Nat.le_of_ble_eq_true rfl⟩ ⟨Nat.le_refl _, Nat.le_refl _⟩ rfl hl rfl (Nat.le_of_ble_eq_true rfl) d_MO_weights_25 ?_
        refine b_if_ne (tgt := 34) hc d_MO_weights_28 (by decide) (fun c_4 => ?_) (fun c_4 => ?_)
        · obtain ⟨zj2, rfl, zj2_1, zj2_2⟩ := rng_nat c_4 (by decide)
          have zj2_e := nI_tI (j := zj2) (by omega)
          have zj2_t := tn_nI (j := zj2) (by omega)
          try unfold rng at c_4
          obtain ⟨⟨hi1, hi2, hi3, hi4, hi5, hi6⟩, hi7, hi8⟩ := hI.2 zj0 (by omega)
          refine lv_aload_n hx hb d_MO_weights_34 rfl (lv_at hl 0 rfl) ?_
          refine gf_MO_43 hc hw d_MO_weights_35 ?_
          refine lv_iload_n hx hb d_MO_weights_38 rfl (lv_at hl 1 rfl) ?_
          rcases ho : an zj0 with _ | a
          · refine r_iald hc hw (h := 70) (n := 24) (i := zj0) (fun _ => rfl) (by omega) (by omega) (by decide) d_MO_weights_39 (v := .int ((-9))) (congrArg Value.int ((hM.2 (zj0) (by omega)).2.2.2.2.1.trans (by rw [ho]; rfl))) ?_
            refine lv_bipush (v := (-9)) hx hb d_MO_weights_40 (by decide) ?_
            refine u_icmp_ne (tgt := 48) (X := (-9)) (Y := (-9)) hc (by decide) (by decide) d_MO_weights_42 (by decide) (fun c_5 => ?_) (fun c_5 => ?_)
            · exact absurd c_5 (by decide)
            · refine lv_bipush (v := (-3)) hx hb d_MO_weights_45 (by decide) ?_
              exact W_i hc hw hr hlocks (by refine ⟨congrArg (fun z => some (Value.int z)) ?_, rfl, hMI, FrO.rf _ _ _⟩; unfold s_weights; (try simp only [inN, rng, zj0_t, zj0_e, zj1_t, zj1_e, zj2_t, zj2_e]); (repeat' split) <;> first | (exfalso; omega) | contradiction | rfl) d_MO_weights_47
          · obtain ⟨ha1, ha2, ha3, ha4, ha5⟩ := (hI.2 zj0 (by omega)).2.1 a ho
            have zhsm : ¬ an zj0 = none := by rw [ho]; exact fun q => by cases q
            refine r_iald hc hw (h := 70) (n := 24) (i := zj0) (fun _ => rfl) (by omega) (by omega) (by decide) d_MO_weights_39 (v := .int (nI a)) (congrArg Value.int ((hM.2 (zj0) (by omega)).2.2.2.2.1.trans (by rw [ho]; rfl))) ?_
            refine lv_bipush (v := (-9)) hx hb d_MO_weights_40 (by decide) ?_
            refine u_icmp_ne (tgt := 48) (X := ((a : Nat) : Int)) (Y := (-9)) hc (nI_tI (by omega)) (by decide) d_MO_weights_42 (by decide) (fun c_6 => ?_) (fun c_6 => ?_)
            · refine lv_aload_n hx hb d_MO_weights_48 rfl (lv_at hl 0 rfl) ?_
              refine gf_MO_37 hc hw d_MO_weights_49 ?_
              refine lv_iload_n hx hb d_MO_weights_52 rfl (lv_at hl 1 rfl) ?_
              refine r_iald hc hw (h := 68) (n := 24) (i := zj0) (fun _ => rfl) (by omega) (by omega) (by decide) d_MO_weights_53 (v := .int (nI (hv zj0))) (congrArg Value.int ((hM.2 (zj0) (by omega)).2.2.1)) ?_
              refine lv_istore (lv' := [(6, .int (nI (hv zj0))), (0, .ref (wad g 58)), (1, .int (nI zj0)), (2, .int (nI zj1)), (3, .int (nI zj2)), (4, .int zp3), (5, .int zp4)]) hx hb d_MO_weights_54 hl (by decide) rfl (fun ls hl => ?_)
              refine lv_iconst (v := nI 0) hx hb d_MO_weights_56 (by decide) ?_
              refine lv_istore (lv' := [(7, .int (nI 0)), (6, .int (nI (hv zj0))), (0, .ref (wad g 58)), (1, .int (nI zj0)), (2, .int (nI zj1)), (3, .int (nI zj2)), (4, .int zp3), (5, .int zp4)]) hx hb d_MO_weights_57 hl (by decide) rfl (fun ls hl => ?_)
              refine lv_bipush (v := (-9)) hx hb d_MO_weights_59 (by decide) ?_
              refine lv_istore (lv' := [(8, .int ((-9))), (7, .int (nI 0)), (6, .int (nI (hv zj0))), (0, .ref (wad g 58)), (1, .int (nI zj0)), (2, .int (nI zj1)), (3, .int (nI zj2)), (4, .int zp3), (5, .int zp4)]) hx hb d_MO_weights_61 hl (by decide) rfl (fun ls hl => ?_)
              refine lv_iconst (v := nI 1) hx hb d_MO_weights_63 (by decide) ?_
              refine lv_istore (lv' := [(9, .int (nI 1)), (8, .int ((-9))), (7, .int (nI 0)), (6, .int (nI (hv zj0))), (0, .ref (wad g 58)), (1, .int (nI zj0)), (2, .int (nI zj1)), (3, .int (nI zj2)), (4, .int zp3), (5, .int zp4)]) hx hb d_MO_weights_64 hl (by decide) rfl (fun ls hl => ?_)
              have loop_66 : ∀ (n_66 : Nat) (w0 z : Nat)  (H : Heap) (locs : List Loc) (ls : Array Slot), (99 - w0) < n_66 → (w0 ≤ 99) → Wd D g (u2 F 68 zj0 (nI z)) A s.heap H locs s → lv_has ls 11 [(0, .ref (wad g 58)), (1, .int (nI zj0)), (2, .int (nI zj1)), (3, .int (nI zj2)), (4, .int zp3), (5, .int zp4), (6, .int (nI (hv zj0))), (7, .int (nI (ctN (okW (wK g) lw (cn, fr, to, hv, dy, an, af) zj0 zj1 zj2 zp3) w0))), (8, .int (oI (kth (okW (wK g) lw (cn, fr, to, hv, dy, an, af) zj0 zj1 zj2 zp3) zp4.toInt w0))), (9, .int (nI (w0 + 1)))] → W p l e (rmc 5 0 0) s m args below meth c H locs 0 0 (MQ below (Qw (fun v g2 u => v = some (.int (s_weights (wK g) (pc, lf) lw (cn, fr, to, hv, dy, an, af) (nI zj0) (nI zj1) (nI zj2) zp3 zp4)) ∧ g = g2 ∧ MI g u (pc, lf) lw (cn, fr, to, hv, dy, an, af) (ln, sz, ce) tr ft ∧ FrO 58 78 F u) (Bw D A) A) args s 0 0 A) (F0 m 66 ls []) := by
                intro n_66
                induction n_66 with
                | zero => intro w0 z  H locs ls hm; exact absurd hm (Nat.not_lt_zero _)
                | succ n_66 ih_66 =>
                  intro w0 z  H locs ls hm_66 hw0 hw hl
                  have hct := ctN_le (ok := (okW (wK g) lw (cn, fr, to, hv, dy, an, af) zj0 zj1 zj2 zp3)) w0
                  refine lv_iload hx hb d_MO_weights_66 (lv_at hl 9 rfl) ?_
                  refine lv_bipush (v := nI 99) hx hb d_MO_weights_68 (by decide) ?_
                  refine q_icmp_gt (tgt := 141) hc (by omega) (by omega) d_MO_weights_70 (by decide) (fun c_7 => ?_) (fun c_7 => ?_)
                  · have hw99 : w0 = 99 := by omega
                    subst hw99
                    refine lv_aload_n hx hb d_MO_weights_141 rfl (lv_at hl 0 rfl) ?_
                    refine gf_MO_37 hc hw d_MO_weights_142 ?_
                    refine lv_iload_n hx hb d_MO_weights_145 rfl (lv_at hl 1 rfl) ?_
                    refine lv_iload hx hb d_MO_weights_146 (lv_at hl 6 rfl) ?_
                    refine r_iast hc hw (h := 68) (n := 24) (i := zj0) (fun _ => rfl) (by omega) (by omega) (by decide) d_MO_weights_148 (fun H locs hw => ?_)
                    refine lv_iload hx hb d_MO_weights_149 (lv_at hl 5 rfl) ?_
                    refine lv_iconst (v := (-1)) hx hb d_MO_weights_151 (by decide) ?_
                    refine u_icmp_ne (tgt := 160) (X := (zp4).toInt) (Y := (-1)) hc (rfl) (by decide) d_MO_weights_152 (by decide) (fun c_8 => ?_) (fun c_8 => ?_)
                    · refine lv_iload hx hb d_MO_weights_160 (lv_at hl 8 rfl) ?_
                      exact W_i hc hw hr hlocks (by refine ⟨congrArg (fun z => some (Value.int z)) ?_, rfl, (by rw [u2_u2, u2_id (hM.2 zj0 (by omega)).2.2.1]; exact hMI), (by rw [u2_u2, u2_id (hM.2 zj0 (by omega)).2.2.1]; exact FrO.rf _ _ _)⟩; unfold s_weights; (try simp only [inN, rng, zj0_t, zj0_e, zj1_t, zj1_e, zj2_t, zj2_e]); (repeat' split) <;> first | (exfalso; omega) | contradiction | rfl) d_MO_weights_162
                    · refine lv_iload hx hb d_MO_weights_155 (lv_at hl 7 rfl) ?_
                      refine lv_goto (tgt := 162) hx hb d_MO_weights_157 (by decide) ?_
                      exact W_i hc hw hr hlocks (by refine ⟨congrArg (fun z => some (Value.int z)) ?_, rfl, (by rw [u2_u2, u2_id (hM.2 zj0 (by omega)).2.2.1]; exact hMI), (by rw [u2_u2, u2_id (hM.2 zj0 (by omega)).2.2.1]; exact FrO.rf _ _ _)⟩; unfold s_weights; (try simp only [inN, rng, zj0_t, zj0_e, zj1_t, zj1_e, zj2_t, zj2_e]); (repeat' split) <;> first | (exfalso; omega) | contradiction | rfl) d_MO_weights_162
                  · refine lv_aload_n hx hb d_MO_weights_73 rfl (lv_at hl 0 rfl) ?_
                    refine gf_MO_37 hc hw d_MO_weights_74 ?_
                    refine lv_iload_n hx hb d_MO_weights_77 rfl (lv_at hl 1 rfl) ?_
                    refine lv_iload hx hb d_MO_weights_78 (lv_at hl 9 rfl) ?_
                    refine r_iast hc hw (h := 68) (n := 24) (i := zj0) (fun _ => rfl) (by omega) (by omega) (by decide) d_MO_weights_80 (fun H locs hw => ?_)
                    rw [u2_u2] at hw
                    refine lv_aload_n hx hb d_MO_weights_81 rfl (lv_at hl 0 rfl) ?_
                    refine lv_iload_n hx hb d_MO_weights_82 rfl (lv_at hl 2 rfl) ?_
                    refine lv_iload_n hx hb d_MO_weights_83 rfl (lv_at hl 3 rfl) ?_
                    refine kRV hc hw lk_MO_139 (As := [.int (nI zj1), .int (nI zj2)]) (rest := []) (c_MO_paidBy l D g _ pc cn fr to (va_up hv zj0 (w0 + 1)) dy an af (LI_hv hI (by omega) (by omega)) (LM_hv hM) hpc6 (fun q hq => ⟨(congrFun (u2_ne 62 (by decide)) q).trans (hK q hq).1, (hK q hq).2⟩) lw zj1 zj2 hlw ((u2_h (by decide)).trans hMI.2.1) (by omega) (by omega)) (rc_MO hw) ⟨Nat.le_of_ble_eq_true rfl, Nat.le_of_ble_eq_true rfl⟩ ⟨Nat.le_refl _, Nat.le_refl _⟩ rfl hl rfl (Nat.le_of_ble_eq_true rfl) d_MO_weights_84 ?_
                    rw [lsc_hv]
                    have hsw := shw_le (k := wK g (fr zj0)) (w := w0 + 1) (by omega)
                    have hpb := pd_leX (g := g) hI lw zj1 zj2 zj0 (shw (wK g (fr zj0)) (w0 + 1)) (by omega)
                    refine lv_iload hx hb d_MO_weights_87 (lv_at hl 4 rfl) ?_
                    refine u_icmp_ne (tgt := 96) (X := ((pdS lw zj1 zj2 fr to dy an (fun i => if i = zj0 then shw (wK g (fr zj0)) (w0 + 1) else lsc g fr hv i) cn : Nat) : Int)) (Y := (zp3).toInt) hc (nI_tI (by omega)) (rfl) d_MO_weights_89 (by decide) (fun c_9 => ?_) (fun c_9 => ?_)
                    · have zhok1 : ¬ (okW (wK g) lw (cn, fr, to, hv, dy, an, af) zj0 zj1 zj2 zp3) (w0 + 1) = true := fun q => absurd (of_decide_eq_true q) c_9
                      refine lv_iconst (v := nI 0) hx hb d_MO_weights_96 (by decide) ?_
                      refine lv_istore (lv' := [(10, .int (nI 0)), (0, .ref (wad g 58)), (1, .int (nI zj0)), (2, .int (nI zj1)), (3, .int (nI zj2)), (4, .int zp3), (5, .int zp4), (6, .int (nI (hv zj0))), (7, .int (nI (ctN (okW (wK g) lw (cn, fr, to, hv, dy, an, af) zj0 zj1 zj2 zp3) w0))), (8, .int (oI (kth (okW (wK g) lw (cn, fr, to, hv, dy, an, af) zj0 zj1 zj2 zp3) zp4.toInt w0))), (9, .int (nI (w0 + 1)))]) hx hb d_MO_weights_97 hl (by decide) rfl (fun ls hl => ?_)
                      refine lv_iload hx hb d_MO_weights_99 (lv_at hl 0 rfl) ?_
                      refine q_if_eq (tgt := 116) hc (by omega) d_MO_weights_101 (by decide) (fun c_10 => ?_) (fun c_10 => ?_)
                      · refine lv_iload hx hb d_MO_weights_116 (lv_at hl 9 rfl) ?_
                        refine lv_istore (lv' := [(8, .int (oI (kth (okW (wK g) lw (cn, fr, to, hv, dy, an, af) zj0 zj1 zj2 zp3) zp4.toInt w0))), (10, .int (nI 0)), (0, .ref (wad g 58)), (1, .int (nI zj0)), (2, .int (nI zj1)), (3, .int (nI zj2)), (4, .int zp3), (5, .int zp4), (6, .int (nI (hv zj0))), (7, .int (nI (ctN (okW (wK g) lw (cn, fr, to, hv, dy, an, af) zj0 zj1 zj2 zp3) w0))), (9, .int (nI (w0 + 1)))]) hx hb d_MO_weights_118 hl (by decide) rfl (fun ls hl => ?_)
                        refine lv_iload hx hb d_MO_weights_120 (lv_at hl 9 rfl) ?_
                        refine lv_iload hx hb d_MO_weights_122 (lv_at hl 1 rfl) ?_
                        refine q_if_eq (tgt := 131) hc (by omega) d_MO_weights_124 (by decide) (fun c_11 => ?_) (fun c_11 => ?_)
                        · refine lv_iconst (v := nI 0) hx hb d_MO_weights_131 (by decide) ?_
                          refine q_iadd hc d_MO_weights_132 ?_
                          refine lv_istore (lv' := [(7, .int (nI ((ctN (okW (wK g) lw (cn, fr, to, hv, dy, an, af) zj0 zj1 zj2 zp3) w0) + 0))), (8, .int (oI (kth (okW (wK g) lw (cn, fr, to, hv, dy, an, af) zj0 zj1 zj2 zp3) zp4.toInt w0))), (10, .int (nI 0)), (0, .ref (wad g 58)), (1, .int (nI zj0)), (2, .int (nI zj1)), (3, .int (nI zj2)), (4, .int zp3), (5, .int zp4), (6, .int (nI (hv zj0))), (9, .int (nI (w0 + 1)))]) hx hb d_MO_weights_133 hl (by decide) rfl (fun ls hl => ?_)
                          refine lv_iinc (v := nI ((w0 + 1) + 1)) (lv' := [(9, .int (nI ((w0 + 1) + 1))), (7, .int (nI ((ctN (okW (wK g) lw (cn, fr, to, hv, dy, an, af) zj0 zj1 zj2 zp3) w0) + 0))), (8, .int (oI (kth (okW (wK g) lw (cn, fr, to, hv, dy, an, af) zj0 zj1 zj2 zp3) zp4.toInt w0))), (10, .int (nI 0)), (0, .ref (wad g 58)), (1, .int (nI zj0)), (2, .int (nI zj1)), (3, .int (nI zj2)), (4, .int zp3), (5, .int zp4), (6, .int (nI (hv zj0)))]) hx hb d_MO_weights_135 hl (k := 10) rfl (nI_inc1 _) (by decide) rfl (fun ls hl => ?_)
                          refine lv_goto (tgt := 66) hx hb d_MO_weights_138 (by decide) ?_
                          have hl : lv_has ls 11 [(9, .int (nI ((w0 + 1) + 1))), (7, .int (nI (ctN (okW (wK g) lw (cn, fr, to, hv, dy, an, af) zj0 zj1 zj2 zp3) (w0 + 1)))), (8, .int (oI (kth (okW (wK g) lw (cn, fr, to, hv, dy, an, af) zj0 zj1 zj2 zp3) zp4.toInt w0))), (10, .int (nI 0)), (0, .ref (wad g 58)), (1, .int (nI zj0)), (2, .int (nI zj1)), (3, .int (nI zj2)), (4, .int zp3), (5, .int zp4), (6, .int (nI (hv zj0)))] := by rw [show ctN (okW (wK g) lw (cn, fr, to, hv, dy, an, af) zj0 zj1 zj2 zp3) (w0 + 1) = (ctN (okW (wK g) lw (cn, fr, to, hv, dy, an, af) zj0 zj1 zj2 zp3) w0) + 0 from by (show ctN (okW (wK g) lw (cn, fr, to, hv, dy, an, af) zj0 zj1 zj2 zp3) w0 + (if (okW (wK g) lw (cn, fr, to, hv, dy, an, af) zj0 zj1 zj2 zp3) (w0 + 1) = true then 1 else 0) = _; first | rw [if_pos zhok1] | rw [if_neg zhok1])]; exact hl
                          have hl : lv_has ls 11 [(9, .int (nI ((w0 + 1) + 1))), (7, .int (nI (ctN (okW (wK g) lw (cn, fr, to, hv, dy, an, af) zj0 zj1 zj2 zp3) (w0 + 1)))), (8, .int (oI (kth (okW (wK g) lw (cn, fr, to, hv, dy, an, af) zj0 zj1 zj2 zp3) zp4.toInt (w0 + 1)))), (10, .int (nI 0)), (0, .ref (wad g 58)), (1, .int (nI zj0)), (2, .int (nI zj1)), (3, .int (nI zj2)), (4, .int zp3), (5, .int zp4), (6, .int (nI (hv zj0)))] := by rw [show oI (kth (okW (wK g) lw (cn, fr, to, hv, dy, an, af) zj0 zj1 zj2 zp3) zp4.toInt (w0 + 1)) = oI (kth (okW (wK g) lw (cn, fr, to, hv, dy, an, af) zj0 zj1 zj2 zp3) zp4.toInt w0) from by (show oI (if (okW (wK g) lw (cn, fr, to, hv, dy, an, af) zj0 zj1 zj2 zp3) (w0 + 1) = true ∧ (ctN (okW (wK g) lw (cn, fr, to, hv, dy, an, af) zj0 zj1 zj2 zp3) w0 : Int) = zp4.toInt then some (w0 + 1) else kth (okW (wK g) lw (cn, fr, to, hv, dy, an, af) zj0 zj1 zj2 zp3) zp4.toInt w0) = _; first | (rw [if_pos ⟨zhok1, by omega⟩]; rfl) | rw [if_neg (fun q => absurd q.2 (by omega))] | rw [if_neg (fun q => absurd q.1 zhok1)])]; exact hl
                          exact ih_66 (w0 + 1) (w0 + 1) _ _ _ (by omega) (by omega) hw (lv_sub hl [4, 5, 6, 7, 8, 9, 10, 1, 2, 0] rfl)
                        · exact absurd c_11 (by first | omega | decide)
                      · exact absurd c_10 (by first | omega | decide)
                    · have zhok1 : (okW (wK g) lw (cn, fr, to, hv, dy, an, af) zj0 zj1 zj2 zp3) (w0 + 1) = true := decide_eq_true c_9
                      refine lv_iconst (v := nI 1) hx hb d_MO_weights_92 (by decide) ?_
                      refine lv_goto (tgt := 97) hx hb d_MO_weights_93 (by decide) ?_
                      refine lv_istore (lv' := [(10, .int (nI 1)), (0, .ref (wad g 58)), (1, .int (nI zj0)), (2, .int (nI zj1)), (3, .int (nI zj2)), (4, .int zp3), (5, .int zp4), (6, .int (nI (hv zj0))), (7, .int (nI (ctN (okW (wK g) lw (cn, fr, to, hv, dy, an, af) zj0 zj1 zj2 zp3) w0))), (8, .int (oI (kth (okW (wK g) lw (cn, fr, to, hv, dy, an, af) zj0 zj1 zj2 zp3) zp4.toInt w0))), (9, .int (nI (w0 + 1)))]) hx hb d_MO_weights_97 hl (by decide) rfl (fun ls hl => ?_)
                      refine lv_iload hx hb d_MO_weights_99 (lv_at hl 0 rfl) ?_
                      refine q_if_eq (tgt := 116) hc (by omega) d_MO_weights_101 (by decide) (fun c_12 => ?_) (fun c_12 => ?_)
                      · exact absurd c_12 (by first | omega | decide)
                      · refine lv_iload hx hb d_MO_weights_104 (lv_at hl 8 rfl) ?_
                        refine lv_iload hx hb d_MO_weights_106 (lv_at hl 6 rfl) ?_
                        refine u_icmp_ne (tgt := 116) (X := ((ctN (okW (wK g) lw (cn, fr, to, hv, dy, an, af) zj0 zj1 zj2 zp3) w0 : Nat) : Int)) (Y := (zp4).toInt) hc (nI_tI (by omega)) (rfl) d_MO_weights_108 (by decide) (fun c_13 => ?_) (fun c_13 => ?_)
                        · refine lv_iload hx hb d_MO_weights_116 (lv_at hl 9 rfl) ?_
                          refine lv_istore (lv' := [(8, .int (oI (kth (okW (wK g) lw (cn, fr, to, hv, dy, an, af) zj0 zj1 zj2 zp3) zp4.toInt w0))), (10, .int (nI 1)), (0, .ref (wad g 58)), (1, .int (nI zj0)), (2, .int (nI zj1)), (3, .int (nI zj2)), (4, .int zp3), (5, .int zp4), (6, .int (nI (hv zj0))), (7, .int (nI (ctN (okW (wK g) lw (cn, fr, to, hv, dy, an, af) zj0 zj1 zj2 zp3) w0))), (9, .int (nI (w0 + 1)))]) hx hb d_MO_weights_118 hl (by decide) rfl (fun ls hl => ?_)
                          refine lv_iload hx hb d_MO_weights_120 (lv_at hl 9 rfl) ?_
                          refine lv_iload hx hb d_MO_weights_122 (lv_at hl 1 rfl) ?_
                          refine q_if_eq (tgt := 131) hc (by omega) d_MO_weights_124 (by decide) (fun c_14 => ?_) (fun c_14 => ?_)
                          · exact absurd c_14 (by first | omega | decide)
                          · refine lv_iconst (v := nI 1) hx hb d_MO_weights_127 (by decide) ?_
                            refine lv_goto (tgt := 132) hx hb d_MO_weights_128 (by decide) ?_
                            refine q_iadd hc d_MO_weights_132 ?_
                            refine lv_istore (lv' := [(7, .int (nI ((ctN (okW (wK g) lw (cn, fr, to, hv, dy, an, af) zj0 zj1 zj2 zp3) w0) + 1))), (8, .int (oI (kth (okW (wK g) lw (cn, fr, to, hv, dy, an, af) zj0 zj1 zj2 zp3) zp4.toInt w0))), (10, .int (nI 1)), (0, .ref (wad g 58)), (1, .int (nI zj0)), (2, .int (nI zj1)), (3, .int (nI zj2)), (4, .int zp3), (5, .int zp4), (6, .int (nI (hv zj0))), (9, .int (nI (w0 + 1)))]) hx hb d_MO_weights_133 hl (by decide) rfl (fun ls hl => ?_)
                            refine lv_iinc (v := nI ((w0 + 1) + 1)) (lv' := [(9, .int (nI ((w0 + 1) + 1))), (7, .int (nI ((ctN (okW (wK g) lw (cn, fr, to, hv, dy, an, af) zj0 zj1 zj2 zp3) w0) + 1))), (8, .int (oI (kth (okW (wK g) lw (cn, fr, to, hv, dy, an, af) zj0 zj1 zj2 zp3) zp4.toInt w0))), (10, .int (nI 1)), (0, .ref (wad g 58)), (1, .int (nI zj0)), (2, .int (nI zj1)), (3, .int (nI zj2)), (4, .int zp3), (5, .int zp4), (6, .int (nI (hv zj0)))]) hx hb d_MO_weights_135 hl (k := 10) rfl (nI_inc1 _) (by decide) rfl (fun ls hl => ?_)
                            refine lv_goto (tgt := 66) hx hb d_MO_weights_138 (by decide) ?_
                            have hl : lv_has ls 11 [(9, .int (nI ((w0 + 1) + 1))), (7, .int (nI (ctN (okW (wK g) lw (cn, fr, to, hv, dy, an, af) zj0 zj1 zj2 zp3) (w0 + 1)))), (8, .int (oI (kth (okW (wK g) lw (cn, fr, to, hv, dy, an, af) zj0 zj1 zj2 zp3) zp4.toInt w0))), (10, .int (nI 1)), (0, .ref (wad g 58)), (1, .int (nI zj0)), (2, .int (nI zj1)), (3, .int (nI zj2)), (4, .int zp3), (5, .int zp4), (6, .int (nI (hv zj0)))] := by rw [show ctN (okW (wK g) lw (cn, fr, to, hv, dy, an, af) zj0 zj1 zj2 zp3) (w0 + 1) = (ctN (okW (wK g) lw (cn, fr, to, hv, dy, an, af) zj0 zj1 zj2 zp3) w0) + 1 from by (show ctN (okW (wK g) lw (cn, fr, to, hv, dy, an, af) zj0 zj1 zj2 zp3) w0 + (if (okW (wK g) lw (cn, fr, to, hv, dy, an, af) zj0 zj1 zj2 zp3) (w0 + 1) = true then 1 else 0) = _; first | rw [if_pos zhok1] | rw [if_neg zhok1])]; exact hl
                            have hl : lv_has ls 11 [(9, .int (nI ((w0 + 1) + 1))), (7, .int (nI (ctN (okW (wK g) lw (cn, fr, to, hv, dy, an, af) zj0 zj1 zj2 zp3) (w0 + 1)))), (8, .int (oI (kth (okW (wK g) lw (cn, fr, to, hv, dy, an, af) zj0 zj1 zj2 zp3) zp4.toInt (w0 + 1)))), (10, .int (nI 1)), (0, .ref (wad g 58)), (1, .int (nI zj0)), (2, .int (nI zj1)), (3, .int (nI zj2)), (4, .int zp3), (5, .int zp4), (6, .int (nI (hv zj0)))] := by rw [show oI (kth (okW (wK g) lw (cn, fr, to, hv, dy, an, af) zj0 zj1 zj2 zp3) zp4.toInt (w0 + 1)) = oI (kth (okW (wK g) lw (cn, fr, to, hv, dy, an, af) zj0 zj1 zj2 zp3) zp4.toInt w0) from by (show oI (if (okW (wK g) lw (cn, fr, to, hv, dy, an, af) zj0 zj1 zj2 zp3) (w0 + 1) = true ∧ (ctN (okW (wK g) lw (cn, fr, to, hv, dy, an, af) zj0 zj1 zj2 zp3) w0 : Int) = zp4.toInt then some (w0 + 1) else kth (okW (wK g) lw (cn, fr, to, hv, dy, an, af) zj0 zj1 zj2 zp3) zp4.toInt w0) = _; first | (rw [if_pos ⟨zhok1, by omega⟩]; rfl) | rw [if_neg (fun q => absurd q.2 (by omega))] | rw [if_neg (fun q => absurd q.1 zhok1)])]; exact hl
                            exact ih_66 (w0 + 1) (w0 + 1) _ _ _ (by omega) (by omega) hw (lv_sub hl [4, 5, 6, 7, 8, 9, 10, 1, 2, 0] rfl)
                        · refine lv_iload hx hb d_MO_weights_111 (lv_at hl 10 rfl) ?_
                          refine lv_goto (tgt := 118) hx hb d_MO_weights_113 (by decide) ?_
                          refine lv_istore (lv' := [(8, .int (nI (w0 + 1))), (10, .int (nI 1)), (0, .ref (wad g 58)), (1, .int (nI zj0)), (2, .int (nI zj1)), (3, .int (nI zj2)), (4, .int zp3), (5, .int zp4), (6, .int (nI (hv zj0))), (7, .int (nI (ctN (okW (wK g) lw (cn, fr, to, hv, dy, an, af) zj0 zj1 zj2 zp3) w0))), (9, .int (nI (w0 + 1)))]) hx hb d_MO_weights_118 hl (by decide) rfl (fun ls hl => ?_)
                          refine lv_iload hx hb d_MO_weights_120 (lv_at hl 9 rfl) ?_
                          refine lv_iload hx hb d_MO_weights_122 (lv_at hl 1 rfl) ?_
                          refine q_if_eq (tgt := 131) hc (by omega) d_MO_weights_124 (by decide) (fun c_15 => ?_) (fun c_15 => ?_)
                          · exact absurd c_15 (by first | omega | decide)
                          · refine lv_iconst (v := nI 1) hx hb d_MO_weights_127 (by decide) ?_
                            refine lv_goto (tgt := 132) hx hb d_MO_weights_128 (by decide) ?_
                            refine q_iadd hc d_MO_weights_132 ?_
                            refine lv_istore (lv' := [(7, .int (nI ((ctN (okW (wK g) lw (cn, fr, to, hv, dy, an, af) zj0 zj1 zj2 zp3) w0) + 1))), (8, .int (nI (w0 + 1))), (10, .int (nI 1)), (0, .ref (wad g 58)), (1, .int (nI zj0)), (2, .int (nI zj1)), (3, .int (nI zj2)), (4, .int zp3), (5, .int zp4), (6, .int (nI (hv zj0))), (9, .int (nI (w0 + 1)))]) hx hb d_MO_weights_133 hl (by decide) rfl (fun ls hl => ?_)
                            refine lv_iinc (v := nI ((w0 + 1) + 1)) (lv' := [(9, .int (nI ((w0 + 1) + 1))), (7, .int (nI ((ctN (okW (wK g) lw (cn, fr, to, hv, dy, an, af) zj0 zj1 zj2 zp3) w0) + 1))), (8, .int (nI (w0 + 1))), (10, .int (nI 1)), (0, .ref (wad g 58)), (1, .int (nI zj0)), (2, .int (nI zj1)), (3, .int (nI zj2)), (4, .int zp3), (5, .int zp4), (6, .int (nI (hv zj0)))]) hx hb d_MO_weights_135 hl (k := 10) rfl (nI_inc1 _) (by decide) rfl (fun ls hl => ?_)
                            refine lv_goto (tgt := 66) hx hb d_MO_weights_138 (by decide) ?_
                            have hl : lv_has ls 11 [(9, .int (nI ((w0 + 1) + 1))), (7, .int (nI (ctN (okW (wK g) lw (cn, fr, to, hv, dy, an, af) zj0 zj1 zj2 zp3) (w0 + 1)))), (8, .int (nI (w0 + 1))), (10, .int (nI 1)), (0, .ref (wad g 58)), (1, .int (nI zj0)), (2, .int (nI zj1)), (3, .int (nI zj2)), (4, .int zp3), (5, .int zp4), (6, .int (nI (hv zj0)))] := by rw [show ctN (okW (wK g) lw (cn, fr, to, hv, dy, an, af) zj0 zj1 zj2 zp3) (w0 + 1) = (ctN (okW (wK g) lw (cn, fr, to, hv, dy, an, af) zj0 zj1 zj2 zp3) w0) + 1 from by (show ctN (okW (wK g) lw (cn, fr, to, hv, dy, an, af) zj0 zj1 zj2 zp3) w0 + (if (okW (wK g) lw (cn, fr, to, hv, dy, an, af) zj0 zj1 zj2 zp3) (w0 + 1) = true then 1 else 0) = _; first | rw [if_pos zhok1] | rw [if_neg zhok1])]; exact hl
                            have hl : lv_has ls 11 [(9, .int (nI ((w0 + 1) + 1))), (7, .int (nI (ctN (okW (wK g) lw (cn, fr, to, hv, dy, an, af) zj0 zj1 zj2 zp3) (w0 + 1)))), (8, .int (oI (kth (okW (wK g) lw (cn, fr, to, hv, dy, an, af) zj0 zj1 zj2 zp3) zp4.toInt (w0 + 1)))), (10, .int (nI 1)), (0, .ref (wad g 58)), (1, .int (nI zj0)), (2, .int (nI zj1)), (3, .int (nI zj2)), (4, .int zp3), (5, .int zp4), (6, .int (nI (hv zj0)))] := by rw [show oI (kth (okW (wK g) lw (cn, fr, to, hv, dy, an, af) zj0 zj1 zj2 zp3) zp4.toInt (w0 + 1)) = nI (w0 + 1) from by (show oI (if (okW (wK g) lw (cn, fr, to, hv, dy, an, af) zj0 zj1 zj2 zp3) (w0 + 1) = true ∧ (ctN (okW (wK g) lw (cn, fr, to, hv, dy, an, af) zj0 zj1 zj2 zp3) w0 : Int) = zp4.toInt then some (w0 + 1) else kth (okW (wK g) lw (cn, fr, to, hv, dy, an, af) zj0 zj1 zj2 zp3) zp4.toInt w0) = _; first | (rw [if_pos ⟨zhok1, by omega⟩]; rfl) | rw [if_neg (fun q => absurd q.2 (by omega))] | rw [if_neg (fun q => absurd q.1 zhok1)])]; exact hl
                            exact ih_66 (w0 + 1) (w0 + 1) _ _ _ (by omega) (by omega) hw (lv_sub hl [4, 5, 6, 7, 8, 9, 10, 1, 2, 0] rfl)
              have hl : lv_has ls 11 [(9, .int (nI 1)), (8, .int ((-9))), (7, .int (nI (ctN (okW (wK g) lw (cn, fr, to, hv, dy, an, af) zj0 zj1 zj2 zp3) 0))), (6, .int (nI (hv zj0))), (0, .ref (wad g 58)), (1, .int (nI zj0)), (2, .int (nI zj1)), (3, .int (nI zj2)), (4, .int zp3), (5, .int zp4)] := by rw [show ctN (okW (wK g) lw (cn, fr, to, hv, dy, an, af) zj0 zj1 zj2 zp3) 0 = 0 from by rfl]; exact hl
              have hl : lv_has ls 11 [(9, .int (nI 1)), (8, .int (oI (kth (okW (wK g) lw (cn, fr, to, hv, dy, an, af) zj0 zj1 zj2 zp3) zp4.toInt 0))), (7, .int (nI (ctN (okW (wK g) lw (cn, fr, to, hv, dy, an, af) zj0 zj1 zj2 zp3) 0))), (6, .int (nI (hv zj0))), (0, .ref (wad g 58)), (1, .int (nI zj0)), (2, .int (nI zj1)), (3, .int (nI zj2)), (4, .int zp3), (5, .int zp4)] := by rw [show oI (kth (okW (wK g) lw (cn, fr, to, hv, dy, an, af) zj0 zj1 zj2 zp3) zp4.toInt 0) = (-9) from by rfl]; exact hl
              have hl : lv_has ls 11 [(9, .int (nI (0 + 1))), (8, .int (oI (kth (okW (wK g) lw (cn, fr, to, hv, dy, an, af) zj0 zj1 zj2 zp3) zp4.toInt 0))), (7, .int (nI (ctN (okW (wK g) lw (cn, fr, to, hv, dy, an, af) zj0 zj1 zj2 zp3) 0))), (6, .int (nI (hv zj0))), (0, .ref (wad g 58)), (1, .int (nI zj0)), (2, .int (nI zj1)), (3, .int (nI zj2)), (4, .int zp3), (5, .int zp4)] := by rw [show 0 + 1 = 1 from by rfl]; exact hl
              exact loop_66 _ 0 (hv zj0) _ _ _ (Nat.lt_succ_self _) (by omega) (by rw [u2_id (hM.2 zj0 (by omega)).2.2.1]; exact hw) (lv_sub hl [4, 5, 6, 7, 8, 9, 3, 2, 1, 0] rfl)
            · exact absurd c_6 (by omega)
        · try unfold rng at c_4
          refine lv_bipush (v := (-2)) hx hb d_MO_weights_31 (by decide) ?_
          exact W_i hc hw hr hlocks (by refine ⟨congrArg (fun z => some (Value.int z)) ?_, rfl, hMI, FrO.rf _ _ _⟩; unfold s_weights; (try simp only [inN, rng, zj0_t, zj0_e, zj1_t, zj1_e]); (repeat' split) <;> first | (exfalso; omega) | contradiction | rfl) d_MO_weights_33
      · refine lv_iconst (v := (-1)) hx hb d_MO_weights_22 (by decide) ?_
        exact W_i hc hw hr hlocks (by refine ⟨congrArg (fun z => some (Value.int z)) ?_, rfl, hMI, FrO.rf _ _ _⟩; unfold s_weights; (try simp only [inN, rng, zj0_t, zj0_e, zj1_t, zj1_e]); (repeat' split) <;> first | (exfalso; omega) | contradiction | rfl) d_MO_weights_23
set_option maxHeartbeats 4000000 in
theorem c_MO_sheet (l : Launch) (D : va_G) (g : wG) (F : wF) (pc : Nat) (lf : Nat → Nat) (lw : Nat) (cn : Nat) (fr to hv dy : Nat → Nat) (an af : Nat → Option Nat) (ln : Nat → Option Nat) (sz : Nat → Nat) (ce : Nat → Nat → Int32) (tr ft : Int32) (hG : GI g (pc, lf) lw (cn, fr, to, hv, dy, an, af) (ln, sz, ce)) (hMI : MI g F (pc, lf) lw (cn, fr, to, hv, dy, an, af) (ln, sz, ce) tr ft) (zp0 zp1 zp2 : Int32) : CW l y_MO_sheet b_MO_sheet 5 (Option.some Jvm.ClassFile.FieldType.int) 5 0 0 D g F [.ref (wad g 58), .int zp0, .int zp1, .int zp2] (fun v g2 u => v = some (.int (s_sheet (ln, sz, ce) zp0 zp1 zp2).1) ∧ g = g2 ∧ MI g u (pc, lf) lw (cn, fr, to, hv, dy, an, af) (s_sheet (ln, sz, ce) zp0 zp1 zp2).2.1 tr (s_sheet (ln, sz, ce) zp0 zp1 zp2).2.2 ∧ FrO 58 78 F u) := by
  refine CW.start rfl (Nat.le_of_ble_eq_true rfl) ?_
  intro p e s m args below meth c A ls hc hr hlocks hw hl
  have hl : lv_has ls 5 [(0, .ref (wad g 58)), (1, .int zp0), (2, .int zp1), (3, .int zp2)] := hl
  have hx := hc.1
  have hb := hc.2.1
  obtain ⟨hpc6, hpcm, hm6, hpc0, hper⟩ : PI g pc lf := hG.1
  have hlw : lw ≤ 2 := hG.2.1
  have hI : LI pc cn fr to hv dy an af := hG.2.2.1
  have hcn := hI.1
  have hSI : SI ln sz := hG.2.2.2
  have hPM : PM g F pc lf := hMI.1
  have hM : LM F cn fr to hv dy an af := hMI.2.2.1
  have hSM : SM F ln sz ce := hMI.2.2.2.1
  have hK : ∀ q, q < pc → F 62 q = nI (wK g q) ∧ wK g q ≤ 2 := fun q hq => ⟨(hPM.2 q hq).1, (hper q hq).1⟩
  refine lv_aload_n hx hb d_MO_sheet_0 rfl (lv_at hl 0 rfl) ?_
  refine lv_iconst (v := nI 0) hx hb d_MO_sheet_1 (by decide) ?_
  refine pf_MO_70 hc hw d_MO_sheet_2 (fun H locs hw => ?_)
  have hM0 := MI_ft hMI (nI 0)
  have hSM0 : SM _ ln sz ce := hM0.2.2.2.1
  refine lv_iload_n hx hb d_MO_sheet_5 rfl (lv_at hl 1 rfl) ?_
  refine kRS hc hw lk_MO_83 (As := [.int zp0]) (rest := []) (c_MO_isSheet l D g _ (zp0)) ⟨Nat.le_of_ble_eq_true rfl, Nat.le_of_ble_eq_true rfl⟩ ⟨Nat.le_refl _, Nat.le_refl _⟩ rfl hl rfl (Nat.le_of_ble_eq_true rfl) d_MO_sheet_6 ?_
  refine b_if_ne (tgt := 14) hc d_MO_sheet_9 (by decide) (fun c_1 => ?_) (fun c_1 => ?_)
  · obtain ⟨zj0, rfl, zj0_1, zj0_2⟩ := rng_nat c_1 (by decide)
    have zj0_e := nI_tI (j := zj0) (by omega)
    have zj0_t := tn_nI (j := zj0) (by omega)
    try unfold rng at c_1
    refine lv_iload_n hx hb d_MO_sheet_14 rfl (lv_at hl 2 rfl) ?_
    refine kRS hc hw lk_MO_87 (As := [.int zp1]) (rest := []) (c_MO_isSort l D g _ (zp1)) ⟨Nat.le_of_ble_eq_true rfl, Nat.le_of_ble_eq_true rfl⟩ ⟨Nat.le_refl _, Nat.le_refl _⟩ rfl hl rfl (Nat.le_of_ble_eq_true rfl) d_MO_sheet_15 ?_
    refine b_if_eq (tgt := 27) hc d_MO_sheet_18 (by decide) (fun c_2 => ?_) (fun c_2 => ?_)
    · try unfold rng at c_2
      refine lv_bipush (v := (-2)) hx hb d_MO_sheet_27 (by decide) ?_
      exact W_i hc hw hr hlocks (by refine ⟨congrArg (fun z => some (Value.int z)) ?_, rfl, ?_, (by repeat (first | exact FrO.rf _ _ _ | refine FrO.up ?_ (by omega) (by omega)))⟩; (unfold s_sheet; (try simp only [inN, rng, zj0_t, zj0_e]); (repeat' split) <;> first | (exfalso; omega) | contradiction | rfl); (unfold s_sheet; (try simp only [inN, rng, zj0_t, zj0_e]); (repeat' split) <;> first | (exfalso; omega) | contradiction | exact hM0)) d_MO_sheet_29
    · obtain ⟨zj1, rfl, zj1_1, zj1_2⟩ := rng_nat c_2 (by decide)
      have zj1_e := nI_tI (j := zj1) (by omega)
      have zj1_t := tn_nI (j := zj1) (by omega)
      try unfold rng at c_2
      refine lv_iload_n hx hb d_MO_sheet_21 rfl (lv_at hl 3 rfl) ?_
      refine lv_bipush (v := nI 40) hx hb d_MO_sheet_22 (by decide) ?_
      refine u_icmp_le (tgt := 30) (X := (zp2).toInt) (Y := 40) hc (rfl) (by decide) d_MO_sheet_24 (by decide) (fun c_3 => ?_) (fun c_3 => ?_)
      · refine lv_iload_n hx hb d_MO_sheet_30 rfl (lv_at hl 3 rfl) ?_
        refine u_if_ge (tgt := 40) (X := (zp2).toInt) hc (rfl) d_MO_sheet_31 (by decide) (fun c_4 => ?_) (fun c_4 => ?_)
        · obtain ⟨zj2, rfl, zj2_1, zj2_2⟩ := rng_nat (x := zp2) (a := 0) (b := 40) ⟨by omega, by omega⟩ (by decide)
          have zj2_e := nI_tI (j := zj2) (by omega)
          have zj2_t := tn_nI (j := zj2) (by omega)
          refine lv_aload_n hx hb d_MO_sheet_40 rfl (lv_at hl 0 rfl) ?_
          refine gf_MO_9 hc hw d_MO_sheet_41 ?_
          refine lv_iload_n hx hb d_MO_sheet_44 rfl (lv_at hl 1 rfl) ?_
          refine lv_iload_n hx hb d_MO_sheet_45 rfl (lv_at hl 2 rfl) ?_
          refine r_iast hc hw (h := 59) (n := 4) (i := zj0) (fun _ => rfl) (by omega) (by omega) (by decide) d_MO_sheet_46 (fun H locs hw => ?_)
          refine lv_aload_n hx hb d_MO_sheet_47 rfl (lv_at hl 0 rfl) ?_
          refine gf_MO_13 hc hw d_MO_sheet_48 ?_
          refine lv_iload_n hx hb d_MO_sheet_51 rfl (lv_at hl 1 rfl) ?_
          refine lv_iload_n hx hb d_MO_sheet_52 rfl (lv_at hl 3 rfl) ?_
          refine r_iast hc hw (h := 60) (n := 4) (i := zj0) (fun _ => rfl) (by omega) (by omega) (by decide) d_MO_sheet_53 (fun H locs hw => ?_)
          refine lv_iconst (v := nI 0) hx hb d_MO_sheet_54 (by decide) ?_
          refine lv_istore (lv' := [(4, .int (nI 0)), (0, .ref (wad g 58)), (1, .int (nI zj0)), (2, .int (nI zj1)), (3, .int (nI zj2))]) hx hb d_MO_sheet_55 hl (by decide) rfl (fun ls hl => ?_)
          have loop_57 : ∀ (n_57 : Nat) (i : Nat) (F1 : wF) (H : Heap) (locs : List Loc) (ls : Array Slot), (40 - i) < n_57 → (i ≤ 40) → (F1 59 zj0 = nI zj1) → (F1 60 zj0 = nI zj2) → (∀ b, b < i → F1 61 (40 * zj0 + b) = nI 0) → (∀ a z, ¬ (z = zj0 ∧ (a = 59 ∨ a = 60)) → ¬ (a = 61 ∧ 40 * zj0 ≤ z ∧ z < 40 * zj0 + 40) → F1 a z = u2 F 58 0 (nI 0) a z) → Wd D g F1 A s.heap H locs s → lv_has ls 5 [(0, .ref (wad g 58)), (1, .int (nI zj0)), (2, .int (nI zj1)), (3, .int (nI zj2)), (4, .int (nI i))] → W p l e (rmc 5 0 0) s m args below meth c H locs 0 0 (MQ below (Qw (fun v g2 u => v = some (.int (s_sheet (ln, sz, ce) (nI zj0) (nI zj1) (nI zj2)).1) ∧ g = g2 ∧ MI g u (pc, lf) lw (cn, fr, to, hv, dy, an, af) (s_sheet (ln, sz, ce) (nI zj0) (nI zj1) (nI zj2)).2.1 tr (s_sheet (ln, sz, ce) (nI zj0) (nI zj1) (nI zj2)).2.2 ∧ FrO 58 78 F u) (Bw D A) A) args s 0 0 A) (F0 m 57 ls []) := by
            intro n_57
            induction n_57 with
            | zero => intro i F1 H locs ls hm; exact absurd hm (Nat.not_lt_zero _)
            | succ n_57 ih_57 =>
              intro i F1 H locs ls hm_57 hi zhq1 zhq2 zhq3 zhq4 hw hl
              refine lv_iload hx hb d_MO_sheet_57 (lv_at hl 4 rfl) ?_
              refine lv_bipush (v := nI 40) hx hb d_MO_sheet_59 (by decide) ?_
              refine q_icmp_ge (tgt := 83) hc (by omega) (by omega) d_MO_sheet_61 (by decide) (fun c_5 => ?_) (fun c_5 => ?_)
              · have hi40 : i = 40 := by omega
                subst hi40
                refine lv_iconst (v := nI 1) hx hb d_MO_sheet_83 (by decide) ?_
                exact W_i hc hw hr hlocks (by refine ⟨congrArg (fun z => some (Value.int z)) ?_, rfl, ?_, ((FrO.up (FrO.rf 58 78 F) (by decide) (by decide)).tr (fun h hh => funext fun z => zhq4 h z (by omega) (by omega)))⟩; (unfold s_sheet; (try simp only [inN, rng, zj0_t, zj0_e, zj1_t, zj1_e, zj2_t, zj2_e]); (repeat' split) <;> first | (exfalso; omega) | contradiction | rfl); (unfold s_sheet; (try simp only [inN, rng, zj0_t, zj0_e, zj1_t, zj1_e, zj2_t, zj2_e]); (repeat' split) <;> first | (exfalso; omega) | contradiction | exact MI_S (S2 := (_, _, _)) hM0 (SM_1 hSM0 (by omega) (x := some zj1) (n := zj2) (f := fun _ => 0) zhq1 zhq2 (fun b hb => (zhq3 b hb).trans nI_0) zhq4) (fun h hh => funext fun z => zhq4 h z (by omega) (by omega)))) d_MO_sheet_84
              · refine lv_aload_n hx hb d_MO_sheet_64 rfl (lv_at hl 0 rfl) ?_
                refine gf_MO_16 hc hw d_MO_sheet_65 ?_
                refine lv_bipush (v := nI 40) hx hb d_MO_sheet_68 (by decide) ?_
                refine lv_iload_n hx hb d_MO_sheet_70 rfl (lv_at hl 1 rfl) ?_
                refine q_imul hc d_MO_sheet_71 ?_
                refine lv_iload hx hb d_MO_sheet_72 (lv_at hl 4 rfl) ?_
                refine q_iadd hc d_MO_sheet_74 ?_
                refine lv_iconst (v := nI 0) hx hb d_MO_sheet_75 (by decide) ?_
                refine r_iast hc hw (h := 61) (n := 160) (i := (40 * zj0) + i) (fun _ => rfl) (by omega) (by omega) (by decide) d_MO_sheet_76 (fun H locs hw => ?_)
                refine lv_iinc (v := nI (i + 1)) (lv' := [(4, .int (nI (i + 1))), (0, .ref (wad g 58)), (1, .int (nI zj0)), (2, .int (nI zj1)), (3, .int (nI zj2))]) hx hb d_MO_sheet_77 hl (k := 4) rfl (nI_inc1 _) (by decide) rfl (fun ls hl => ?_)
                refine lv_goto (tgt := 57) hx hb d_MO_sheet_80 (by decide) ?_
                exact ih_57 (i + 1) _ _ _ _ (by omega) (by omega) ((u2_h (by decide)).trans zhq1) ((u2_h (by decide)).trans zhq2) (fun b hb => by rcases (show b < i ∨ b = i by omega) with q | q; exact (u2_i (by omega)).trans (zhq3 b q); rw [q]; exact u2_same _ _ _ _) (fun a z h1 h2 => by rw [show u2 F1 61 (40 * zj0 + i) (nI 0) a z = F1 a z from by simp only [u2]; rw [if_neg (by omega)]]; exact zhq4 a z h1 h2) hw (lv_sub hl [1, 2, 3, 4, 0] rfl)
          exact loop_57 _ 0 _ _ _ _ (Nat.lt_succ_self _) (by omega) ((u2_h (by decide)).trans (u2_same _ _ _ _)) (u2_same _ _ _ _) (fun b hb => absurd hb (Nat.not_lt_zero b)) (fun a z h1 h2 => by simp only [u2]; rw [if_neg (by omega), if_neg (by omega)]) hw (lv_sub hl [1, 2, 3, 4, 0] rfl)
        · refine lv_aload_n hx hb d_MO_sheet_34 rfl (lv_at hl 0 rfl) ?_
          refine lv_iconst (v := nI 4) hx hb d_MO_sheet_35 (by decide) ?_
          refine kWV hc hw lk_MO_94 (h := 58) (As := [.int (nI 4)]) (rest := []) (c_MO_fails l D g _ 4) (rc_MO hw) ⟨Nat.le_of_ble_eq_true rfl, Nat.le_of_ble_eq_true rfl⟩ ⟨Nat.le_refl _, Nat.le_refl _⟩ rfl hl rfl (Nat.le_of_ble_eq_true rfl) d_MO_sheet_36 (fun v_6 g_7 F_8 H locs zhp_9 hw => ?_)
          obtain ⟨rfl, rfl, rfl⟩ := zhp_9
          exact W_i hc hw hr hlocks (by refine ⟨congrArg (fun z => some (Value.int z)) ?_, rfl, ?_, (by repeat (first | exact FrO.rf _ _ _ | refine FrO.up ?_ (by omega) (by omega)))⟩; (unfold s_sheet; (try simp only [inN, rng, zj0_t, zj0_e, zj1_t, zj1_e]); (repeat' split) <;> first | (exfalso; omega) | contradiction | rfl); (unfold s_sheet; (try simp only [inN, rng, zj0_t, zj0_e, zj1_t, zj1_e]); (repeat' split) <;> first | (exfalso; omega) | contradiction | exact MI_ft hM0 _)) d_MO_sheet_39
      · refine lv_bipush (v := (-2)) hx hb d_MO_sheet_27 (by decide) ?_
        exact W_i hc hw hr hlocks (by refine ⟨congrArg (fun z => some (Value.int z)) ?_, rfl, ?_, (by repeat (first | exact FrO.rf _ _ _ | refine FrO.up ?_ (by omega) (by omega)))⟩; (unfold s_sheet; (try simp only [inN, rng, zj0_t, zj0_e, zj1_t, zj1_e]); (repeat' split) <;> first | (exfalso; omega) | contradiction | rfl); (unfold s_sheet; (try simp only [inN, rng, zj0_t, zj0_e, zj1_t, zj1_e]); (repeat' split) <;> first | (exfalso; omega) | contradiction | exact hM0)) d_MO_sheet_29
  · try unfold rng at c_1
    refine lv_iconst (v := (-1)) hx hb d_MO_sheet_12 (by decide) ?_
    exact W_i hc hw hr hlocks (by refine ⟨congrArg (fun z => some (Value.int z)) ?_, rfl, ?_, (by repeat (first | exact FrO.rf _ _ _ | refine FrO.up ?_ (by omega) (by omega)))⟩; (unfold s_sheet; (try simp only [inN, rng]); (repeat' split) <;> first | (exfalso; omega) | contradiction | rfl); (unfold s_sheet; (try simp only [inN, rng]); (repeat' split) <;> first | (exfalso; omega) | contradiction | exact hM0)) d_MO_sheet_13
set_option maxHeartbeats 4000000 in
theorem c_MO_lose (l : Launch) (D : va_G) (g : wG) (F : wF) (pc : Nat) (lf : Nat → Nat) (lw : Nat) (cn : Nat) (fr to hv dy : Nat → Nat) (an af : Nat → Option Nat) (ln : Nat → Option Nat) (sz : Nat → Nat) (ce : Nat → Nat → Int32) (tr ft : Int32) (hG : GI g (pc, lf) lw (cn, fr, to, hv, dy, an, af) (ln, sz, ce)) (hMI : MI g F (pc, lf) lw (cn, fr, to, hv, dy, an, af) (ln, sz, ce) tr ft) (zp0 : Int32) : CW l y_MO_lose b_MO_lose 3 (Option.some Jvm.ClassFile.FieldType.int) 5 0 0 D g F [.ref (wad g 58), .int zp0] (fun v g2 u => v = some (.int (s_lose (ln, sz, ce) zp0).1) ∧ g = g2 ∧ MI g u (pc, lf) lw (cn, fr, to, hv, dy, an, af) (s_lose (ln, sz, ce) zp0).2 tr ft ∧ FrO 58 78 F u) := by
  refine CW.start rfl (Nat.le_of_ble_eq_true rfl) ?_
  intro p e s m args below meth c A ls hc hr hlocks hw hl
  have hl : lv_has ls 3 [(0, .ref (wad g 58)), (1, .int zp0)] := hl
  have hx := hc.1
  have hb := hc.2.1
  obtain ⟨hpc6, hpcm, hm6, hpc0, hper⟩ : PI g pc lf := hG.1
  have hlw : lw ≤ 2 := hG.2.1
  have hI : LI pc cn fr to hv dy an af := hG.2.2.1
  have hcn := hI.1
  have hSI : SI ln sz := hG.2.2.2
  have hPM : PM g F pc lf := hMI.1
  have hM : LM F cn fr to hv dy an af := hMI.2.2.1
  have hSM : SM F ln sz ce := hMI.2.2.2.1
  have hK : ∀ q, q < pc → F 62 q = nI (wK g q) ∧ wK g q ≤ 2 := fun q hq => ⟨(hPM.2 q hq).1, (hper q hq).1⟩
  refine lv_iload_n hx hb d_MO_lose_0 rfl (lv_at hl 1 rfl) ?_
  refine kRS hc hw lk_MO_83 (As := [.int zp0]) (rest := []) (c_MO_isSheet l D g _ (zp0)) ⟨Nat.le_of_ble_eq_true rfl, Nat.le_of_ble_eq_true rfl⟩ ⟨Nat.le_refl _, Nat.le_refl _⟩ rfl hl rfl (Nat.le_of_ble_eq_true rfl) d_MO_lose_1 ?_
  refine b_if_ne (tgt := 9) hc d_MO_lose_4 (by decide) (fun c_1 => ?_) (fun c_1 => ?_)
  · obtain ⟨zj0, rfl, zj0_1, zj0_2⟩ := rng_nat c_1 (by decide)
    have zj0_e := nI_tI (j := zj0) (by omega)
    have zj0_t := tn_nI (j := zj0) (by omega)
    try unfold rng at c_1
    refine lv_aload_n hx hb d_MO_lose_9 rfl (lv_at hl 0 rfl) ?_
    refine gf_MO_9 hc hw d_MO_lose_10 ?_
    refine lv_iload_n hx hb d_MO_lose_13 rfl (lv_at hl 1 rfl) ?_
    refine r_iald hc hw (h := 59) (n := 4) (i := zj0) (fun _ => rfl) (by omega) (by omega) (by decide) d_MO_lose_14 (v := .int (oI (ln zj0))) (congrArg Value.int ((hSM zj0 (by omega)).1)) ?_
    refine lv_bipush (v := (-9)) hx hb d_MO_lose_15 (by decide) ?_
    refine u_icmp_ne (tgt := 24) (X := (oI (ln zj0)).toInt) (Y := (-9)) hc (rfl) (by decide) d_MO_lose_17 (by decide) (fun c_2 => ?_) (fun c_2 => ?_)
    · have hzn : ¬ ln zj0 = none := fun q => c_2 ((oI_no (hSI zj0 (by omega)).2).mpr q)
      refine lv_iconst (v := nI 1) hx hb d_MO_lose_24 (by decide) ?_
      refine lv_istore_n (lv' := [(2, .int (nI 1)), (0, .ref (wad g 58)), (1, .int (nI zj0))]) hx hb d_MO_lose_25 rfl hl (by decide) rfl (fun ls hl => ?_)
      refine lv_aload_n hx hb d_MO_lose_26 rfl (lv_at hl 1 rfl) ?_
      refine gf_MO_9 hc hw d_MO_lose_27 ?_
      refine lv_iload_n hx hb d_MO_lose_30 rfl (lv_at hl 2 rfl) ?_
      refine lv_bipush (v := (-9)) hx hb d_MO_lose_31 (by decide) ?_
      refine r_iast hc hw (h := 59) (n := 4) (i := zj0) (fun _ => rfl) (by omega) (by omega) (by decide) d_MO_lose_33 (fun H locs hw => ?_)
      refine lv_iload_n hx hb d_MO_lose_34 rfl (lv_at hl 0 rfl) ?_
      exact W_i hc hw hr hlocks (by refine ⟨congrArg (fun z => some (Value.int z)) ?_, rfl, ?_, (by repeat (first | exact FrO.rf _ _ _ | refine FrO.up ?_ (by omega) (by omega)))⟩; (unfold s_lose; (try simp only [inN, rng, zj0_t, zj0_e]); (repeat' split) <;> first | (exfalso; omega) | contradiction | rfl); (unfold s_lose; (try simp only [inN, rng, zj0_t, zj0_e]); (repeat' split) <;> first | (exfalso; omega) | contradiction | exact MI_S (S2 := (_, _, _)) hMI (SM_3 hSM (by omega) (y := none) rfl) ((FrO.rf 59 61 F).up (by decide) (by decide)))) d_MO_lose_35
    · have hzn : ln zj0 = none := (oI_no (hSI zj0 (by omega)).2).mp c_2
      refine lv_iconst (v := nI 0) hx hb d_MO_lose_20 (by decide) ?_
      refine lv_goto (tgt := 25) hx hb d_MO_lose_21 (by decide) ?_
      refine lv_istore_n (lv' := [(2, .int (nI 0)), (0, .ref (wad g 58)), (1, .int (nI zj0))]) hx hb d_MO_lose_25 rfl hl (by decide) rfl (fun ls hl => ?_)
      refine lv_aload_n hx hb d_MO_lose_26 rfl (lv_at hl 1 rfl) ?_
      refine gf_MO_9 hc hw d_MO_lose_27 ?_
      refine lv_iload_n hx hb d_MO_lose_30 rfl (lv_at hl 2 rfl) ?_
      refine lv_bipush (v := (-9)) hx hb d_MO_lose_31 (by decide) ?_
      refine r_iast hc hw (h := 59) (n := 4) (i := zj0) (fun _ => rfl) (by omega) (by omega) (by decide) d_MO_lose_33 (fun H locs hw => ?_)
      refine lv_iload_n hx hb d_MO_lose_34 rfl (lv_at hl 0 rfl) ?_
      exact W_i hc hw hr hlocks (by refine ⟨congrArg (fun z => some (Value.int z)) ?_, rfl, ?_, (by repeat (first | exact FrO.rf _ _ _ | refine FrO.up ?_ (by omega) (by omega)))⟩; (unfold s_lose; (try simp only [inN, rng, zj0_t, zj0_e]); (repeat' split) <;> first | (exfalso; omega) | contradiction | rfl); (unfold s_lose; (try simp only [inN, rng, zj0_t, zj0_e]); (repeat' split) <;> first | (exfalso; omega) | contradiction | exact MI_S (S2 := (_, _, _)) hMI (SM_3 hSM (by omega) (y := none) rfl) ((FrO.rf 59 61 F).up (by decide) (by decide)))) d_MO_lose_35
  · try unfold rng at c_1
    refine lv_iconst (v := (-1)) hx hb d_MO_lose_7 (by decide) ?_
    exact W_i hc hw hr hlocks (by refine ⟨congrArg (fun z => some (Value.int z)) ?_, rfl, ?_, (by repeat (first | exact FrO.rf _ _ _ | refine FrO.up ?_ (by omega) (by omega)))⟩; (unfold s_lose; (try simp only [inN, rng]); (repeat' split) <;> first | (exfalso; omega) | contradiction | rfl); (unfold s_lose; (try simp only [inN, rng]); (repeat' split) <;> first | (exfalso; omega) | contradiction | exact hMI)) d_MO_lose_8
set_option maxHeartbeats 4000000 in
theorem c_MO_put (l : Launch) (D : va_G) (g : wG) (F : wF) (pc : Nat) (lf : Nat → Nat) (lw : Nat) (cn : Nat) (fr to hv dy : Nat → Nat) (an af : Nat → Option Nat) (ln : Nat → Option Nat) (sz : Nat → Nat) (ce : Nat → Nat → Int32) (tr ft : Int32) (hG : GI g (pc, lf) lw (cn, fr, to, hv, dy, an, af) (ln, sz, ce)) (hMI : MI g F (pc, lf) lw (cn, fr, to, hv, dy, an, af) (ln, sz, ce) tr ft) (zp0 zp1 zp2 : Int32) : CW l y_MO_put b_MO_put 4 (Option.some Jvm.ClassFile.FieldType.int) 5 0 0 D g F [.ref (wad g 58), .int zp0, .int zp1, .int zp2] (fun v g2 u => v = some (.int (s_put (ln, sz, ce) zp0 zp1 zp2).1) ∧ g = g2 ∧ MI g u (pc, lf) lw (cn, fr, to, hv, dy, an, af) (s_put (ln, sz, ce) zp0 zp1 zp2).2.1 tr (s_put (ln, sz, ce) zp0 zp1 zp2).2.2 ∧ FrO 58 78 F u) := by
  refine CW.start rfl (Nat.le_of_ble_eq_true rfl) ?_
  intro p e s m args below meth c A ls hc hr hlocks hw hl
  have hl : lv_has ls 4 [(0, .ref (wad g 58)), (1, .int zp0), (2, .int zp1), (3, .int zp2)] := hl
  have hx := hc.1
  have hb := hc.2.1
  obtain ⟨hpc6, hpcm, hm6, hpc0, hper⟩ : PI g pc lf := hG.1
  have hlw : lw ≤ 2 := hG.2.1
  have hI : LI pc cn fr to hv dy an af := hG.2.2.1
  have hcn := hI.1
  have hSI : SI ln sz := hG.2.2.2
  have hPM : PM g F pc lf := hMI.1
  have hM : LM F cn fr to hv dy an af := hMI.2.2.1
  have hSM : SM F ln sz ce := hMI.2.2.2.1
  have hK : ∀ q, q < pc → F 62 q = nI (wK g q) ∧ wK g q ≤ 2 := fun q hq => ⟨(hPM.2 q hq).1, (hper q hq).1⟩
  refine lv_aload_n hx hb d_MO_put_0 rfl (lv_at hl 0 rfl) ?_
  refine lv_iconst (v := nI 0) hx hb d_MO_put_1 (by decide) ?_
  refine pf_MO_70 hc hw d_MO_put_2 (fun H locs hw => ?_)
  have hM0 := MI_ft hMI (nI 0)
  have hSM0 : SM _ ln sz ce := hM0.2.2.2.1
  refine lv_iload_n hx hb d_MO_put_5 rfl (lv_at hl 1 rfl) ?_
  refine kRS hc hw lk_MO_83 (As := [.int zp0]) (rest := []) (c_MO_isSheet l D g _ (zp0)) ⟨Nat.le_of_ble_eq_true rfl, Nat.le_of_ble_eq_true rfl⟩ ⟨Nat.le_refl _, Nat.le_refl _⟩ rfl hl rfl (Nat.le_of_ble_eq_true rfl) d_MO_put_6 ?_
  refine b_if_ne (tgt := 14) hc d_MO_put_9 (by decide) (fun c_1 => ?_) (fun c_1 => ?_)
  · obtain ⟨zj0, rfl, zj0_1, zj0_2⟩ := rng_nat c_1 (by decide)
    have zj0_e := nI_tI (j := zj0) (by omega)
    have zj0_t := tn_nI (j := zj0) (by omega)
    try unfold rng at c_1
    refine lv_aload_n hx hb d_MO_put_14 rfl (lv_at hl 0 rfl) ?_
    refine gf_MO_9 hc hw d_MO_put_15 ?_
    refine lv_iload_n hx hb d_MO_put_18 rfl (lv_at hl 1 rfl) ?_
    refine r_iald hc hw (h := 59) (n := 4) (i := zj0) (fun _ => rfl) (by omega) (by omega) (by decide) d_MO_put_19 (v := .int (oI (ln zj0))) (congrArg Value.int ((u2_h (by decide)).trans ((hSM zj0 (by omega)).1))) ?_
    refine lv_bipush (v := (-9)) hx hb d_MO_put_20 (by decide) ?_
    refine u_icmp_ne (tgt := 31) (X := (oI (ln zj0)).toInt) (Y := (-9)) hc (rfl) (by decide) d_MO_put_22 (by decide) (fun c_2 => ?_) (fun c_2 => ?_)
    · have hzn : ¬ ln zj0 = none := fun q => c_2 ((oI_no (hSI zj0 (by omega)).2).mpr q)
      refine lv_iload_n hx hb d_MO_put_31 rfl (lv_at hl 2 rfl) ?_
      refine lv_iconst (v := nI 0) hx hb d_MO_put_32 (by decide) ?_
      refine lv_aload_n hx hb d_MO_put_33 rfl (lv_at hl 0 rfl) ?_
      refine gf_MO_13 hc hw d_MO_put_34 ?_
      refine lv_iload_n hx hb d_MO_put_37 rfl (lv_at hl 1 rfl) ?_
      refine r_iald hc hw (h := 60) (n := 4) (i := zj0) (fun _ => rfl) (by omega) (by omega) (by decide) d_MO_put_38 (v := .int (nI (sz zj0))) (congrArg Value.int ((u2_h (by decide)).trans ((hSM zj0 (by omega)).2.1))) ?_
      refine lv_iconst (v := nI 1) hx hb d_MO_put_39 (by decide) ?_
      refine lv_isub hx hb d_MO_put_40 ?_
      have hsz := (hSI zj0 (by omega)).1
      have hsz1 := pk_sub_toInt (a := sz zj0) (b := 1) (by omega) (by decide)
      refine kRS hc hw lk_MO_76 (As := [.int zp1, .int (nI 0), .int ((nI (sz zj0)) - (nI 1))]) (rest := []) (c_MO_within l D g _ (zp1) (nI 0) ((nI (sz zj0)) - (nI 1)) 0 ((nI (sz zj0)) - (nI 1)).toInt (by decide) (rfl)) ⟨Nat.le_of_ble_eq_true rfl, Nat.le_of_ble_eq_true rfl⟩ ⟨Nat.le_refl _, Nat.le_refl _⟩ rfl hl rfl (Nat.le_of_ble_eq_true rfl) d_MO_put_41 ?_
      refine b_if_ne (tgt := 53) hc d_MO_put_44 (by decide) (fun c_3 => ?_) (fun c_3 => ?_)
      · obtain ⟨zj1, rfl, zj1_1, zj1_2⟩ := rng_nat c_3 (by decide)
        have zj1_e := nI_tI (j := zj1) (by omega)
        have zj1_t := tn_nI (j := zj1) (by omega)
        try unfold rng at c_3
        refine lv_aload_n hx hb d_MO_put_53 rfl (lv_at hl 0 rfl) ?_
        refine gf_MO_16 hc hw d_MO_put_54 ?_
        refine lv_bipush (v := nI 40) hx hb d_MO_put_57 (by decide) ?_
        refine lv_iload_n hx hb d_MO_put_59 rfl (lv_at hl 1 rfl) ?_
        refine q_imul hc d_MO_put_60 ?_
        refine lv_iload_n hx hb d_MO_put_61 rfl (lv_at hl 2 rfl) ?_
        refine q_iadd hc d_MO_put_62 ?_
        refine lv_aload_n hx hb d_MO_put_63 rfl (lv_at hl 0 rfl) ?_
        refine gf_MO_9 hc hw d_MO_put_64 ?_
        refine lv_iload_n hx hb d_MO_put_67 rfl (lv_at hl 1 rfl) ?_
        refine r_iald hc hw (h := 59) (n := 4) (i := zj0) (fun _ => rfl) (by omega) (by omega) (by decide) d_MO_put_68 (v := .int (oI (ln zj0))) (congrArg Value.int ((u2_h (by decide)).trans ((hSM zj0 (by omega)).1))) ?_
        refine u_if_ne (tgt := 77) (X := (oI (ln zj0)).toInt) hc (rfl) d_MO_put_69 (by decide) (fun c_4 => ?_) (fun c_4 => ?_)
        · have hc0 : ¬ ln zj0 = some 0 := fun q => c_4 ((oI_sm (hSI zj0 (by omega)).2 0).mpr q)
          refine lv_aload_n hx hb d_MO_put_77 rfl (lv_at hl 0 rfl) ?_
          refine gf_MO_9 hc hw d_MO_put_78 ?_
          refine lv_iload_n hx hb d_MO_put_81 rfl (lv_at hl 1 rfl) ?_
          refine r_iald hc hw (h := 59) (n := 4) (i := zj0) (fun _ => rfl) (by omega) (by omega) (by decide) d_MO_put_82 (v := .int (oI (ln zj0))) (congrArg Value.int ((u2_h (by decide)).trans ((hSM zj0 (by omega)).1))) ?_
          refine lv_iconst (v := nI 1) hx hb d_MO_put_83 (by decide) ?_
          refine u_icmp_ne (tgt := 92) (X := (oI (ln zj0)).toInt) (Y := 1) hc (rfl) (by decide) d_MO_put_84 (by decide) (fun c_5 => ?_) (fun c_5 => ?_)
          · have hc1 : ¬ ln zj0 = some 1 := fun q => c_5 ((oI_sm (hSI zj0 (by omega)).2 1).mpr q)
            have hcut : cutI (ln zj0) zp2 = zp2 := by unfold cutI; rw [if_neg hc0, if_neg hc1]
            refine lv_iload_n hx hb d_MO_put_92 rfl (lv_at hl 3 rfl) ?_
            refine r_iast hc hw (h := 61) (n := 160) (i := (40 * zj0) + zj1) (fun _ => rfl) (by omega) (by omega) (by decide) d_MO_put_93 (fun H locs hw => ?_)
            refine lv_iconst (v := nI 1) hx hb d_MO_put_94 (by decide) ?_
            exact W_i hc hw hr hlocks (by refine ⟨congrArg (fun z => some (Value.int z)) ?_, rfl, ?_, (by repeat (first | exact FrO.rf _ _ _ | refine FrO.up ?_ (by omega) (by omega)))⟩; (unfold s_put; (try simp only [inN, rng, zj0_t, zj0_e, zj1_t, zj1_e]); (repeat' split) <;> first | (exfalso; omega) | contradiction | rfl); (unfold s_put; (try simp only [inN, rng, zj0_t, zj0_e, zj1_t, zj1_e]); (repeat' split) <;> first | (exfalso; omega) | contradiction | exact (by rw [hcut]; exact MI_S (S2 := (_, _, _)) hM0 (SM_put hSM0 (by omega) (by omega)) ((FrO.rf 59 61 _).up (by decide) (by decide))))) d_MO_put_95
          · have hcut : cutI (ln zj0) zp2 = zp2.toInt16.toInt32 := by rw [(oI_sm (hSI zj0 (by omega)).2 1).mp c_5]; rfl
            refine lv_iload_n hx hb d_MO_put_87 rfl (lv_at hl 3 rfl) ?_
            refine lv_i2s (v := (zp2).toInt16.toInt32) hx hb d_MO_put_88 rfl ?_
            refine lv_goto (tgt := 93) hx hb d_MO_put_89 (by decide) ?_
            refine r_iast hc hw (h := 61) (n := 160) (i := (40 * zj0) + zj1) (fun _ => rfl) (by omega) (by omega) (by decide) d_MO_put_93 (fun H locs hw => ?_)
            refine lv_iconst (v := nI 1) hx hb d_MO_put_94 (by decide) ?_
            exact W_i hc hw hr hlocks (by refine ⟨congrArg (fun z => some (Value.int z)) ?_, rfl, ?_, (by repeat (first | exact FrO.rf _ _ _ | refine FrO.up ?_ (by omega) (by omega)))⟩; (unfold s_put; (try simp only [inN, rng, zj0_t, zj0_e, zj1_t, zj1_e]); (repeat' split) <;> first | (exfalso; omega) | contradiction | rfl); (unfold s_put; (try simp only [inN, rng, zj0_t, zj0_e, zj1_t, zj1_e]); (repeat' split) <;> first | (exfalso; omega) | contradiction | exact (by rw [hcut]; exact MI_S (S2 := (_, _, _)) hM0 (SM_put hSM0 (by omega) (by omega)) ((FrO.rf 59 61 _).up (by decide) (by decide))))) d_MO_put_95
        · have hcut : cutI (ln zj0) zp2 = zp2.toInt8.toInt32 := by rw [(oI_sm (hSI zj0 (by omega)).2 0).mp c_4]; rfl
          refine lv_iload_n hx hb d_MO_put_72 rfl (lv_at hl 3 rfl) ?_
          refine lv_i2b (v := (zp2).toInt8.toInt32) hx hb d_MO_put_73 rfl ?_
          refine lv_goto (tgt := 93) hx hb d_MO_put_74 (by decide) ?_
          refine r_iast hc hw (h := 61) (n := 160) (i := (40 * zj0) + zj1) (fun _ => rfl) (by omega) (by omega) (by decide) d_MO_put_93 (fun H locs hw => ?_)
          refine lv_iconst (v := nI 1) hx hb d_MO_put_94 (by decide) ?_
          exact W_i hc hw hr hlocks (by refine ⟨congrArg (fun z => some (Value.int z)) ?_, rfl, ?_, (by repeat (first | exact FrO.rf _ _ _ | refine FrO.up ?_ (by omega) (by omega)))⟩; (unfold s_put; (try simp only [inN, rng, zj0_t, zj0_e, zj1_t, zj1_e]); (repeat' split) <;> first | (exfalso; omega) | contradiction | rfl); (unfold s_put; (try simp only [inN, rng, zj0_t, zj0_e, zj1_t, zj1_e]); (repeat' split) <;> first | (exfalso; omega) | contradiction | exact (by rw [hcut]; exact MI_S (S2 := (_, _, _)) hM0 (SM_put hSM0 (by omega) (by omega)) ((FrO.rf 59 61 _).up (by decide) (by decide))))) d_MO_put_95
      · try unfold rng at c_3
        refine lv_aload_n hx hb d_MO_put_47 rfl (lv_at hl 0 rfl) ?_
        refine lv_iconst (v := nI 3) hx hb d_MO_put_48 (by decide) ?_
        refine kWV hc hw lk_MO_94 (h := 58) (As := [.int (nI 3)]) (rest := []) (c_MO_fails l D g _ 3) (rc_MO hw) ⟨Nat.le_of_ble_eq_true rfl, Nat.le_of_ble_eq_true rfl⟩ ⟨Nat.le_refl _, Nat.le_refl _⟩ rfl hl rfl (Nat.le_of_ble_eq_true rfl) d_MO_put_49 (fun v_6 g_7 F_8 H locs zhp_9 hw => ?_)
        obtain ⟨rfl, rfl, rfl⟩ := zhp_9
        exact W_i hc hw hr hlocks (by refine ⟨congrArg (fun z => some (Value.int z)) ?_, rfl, ?_, (by repeat (first | exact FrO.rf _ _ _ | refine FrO.up ?_ (by omega) (by omega)))⟩; (unfold s_put; (try simp only [inN, rng, zj0_t, zj0_e]); (repeat' split) <;> first | (exfalso; omega) | contradiction | rfl); (unfold s_put; (try simp only [inN, rng, zj0_t, zj0_e]); (repeat' split) <;> first | (exfalso; omega) | contradiction | exact MI_ft hM0 _)) d_MO_put_52
    · have hzn : ln zj0 = none := (oI_no (hSI zj0 (by omega)).2).mp c_2
      refine lv_aload_n hx hb d_MO_put_25 rfl (lv_at hl 0 rfl) ?_
      refine lv_iconst (v := nI 1) hx hb d_MO_put_26 (by decide) ?_
      refine kWV hc hw lk_MO_94 (h := 58) (As := [.int (nI 1)]) (rest := []) (c_MO_fails l D g _ 1) (rc_MO hw) ⟨Nat.le_of_ble_eq_true rfl, Nat.le_of_ble_eq_true rfl⟩ ⟨Nat.le_refl _, Nat.le_refl _⟩ rfl hl rfl (Nat.le_of_ble_eq_true rfl) d_MO_put_27 (fun v_10 g_11 F_12 H locs zhp_13 hw => ?_)
      obtain ⟨rfl, rfl, rfl⟩ := zhp_13
      exact W_i hc hw hr hlocks (by refine ⟨congrArg (fun z => some (Value.int z)) ?_, rfl, ?_, (by repeat (first | exact FrO.rf _ _ _ | refine FrO.up ?_ (by omega) (by omega)))⟩; (unfold s_put; (try simp only [inN, rng, zj0_t, zj0_e]); (repeat' split) <;> first | (exfalso; omega) | contradiction | rfl); (unfold s_put; (try simp only [inN, rng, zj0_t, zj0_e]); (repeat' split) <;> first | (exfalso; omega) | contradiction | exact MI_ft hM0 _)) d_MO_put_30
  · try unfold rng at c_1
    refine lv_iconst (v := (-1)) hx hb d_MO_put_12 (by decide) ?_
    exact W_i hc hw hr hlocks (by refine ⟨congrArg (fun z => some (Value.int z)) ?_, rfl, ?_, (by repeat (first | exact FrO.rf _ _ _ | refine FrO.up ?_ (by omega) (by omega)))⟩; (unfold s_put; (try simp only [inN, rng]); (repeat' split) <;> first | (exfalso; omega) | contradiction | rfl); (unfold s_put; (try simp only [inN, rng]); (repeat' split) <;> first | (exfalso; omega) | contradiction | exact hM0)) d_MO_put_13
set_option maxHeartbeats 4000000 in
theorem c_MO_cell (l : Launch) (D : va_G) (g : wG) (F : wF) (pc : Nat) (lf : Nat → Nat) (lw : Nat) (cn : Nat) (fr to hv dy : Nat → Nat) (an af : Nat → Option Nat) (ln : Nat → Option Nat) (sz : Nat → Nat) (ce : Nat → Nat → Int32) (tr ft : Int32) (hG : GI g (pc, lf) lw (cn, fr, to, hv, dy, an, af) (ln, sz, ce)) (hMI : MI g F (pc, lf) lw (cn, fr, to, hv, dy, an, af) (ln, sz, ce) tr ft) (zp0 zp1 zp2 : Int32) : CW l y_MO_cell b_MO_cell 4 (Option.some Jvm.ClassFile.FieldType.long) 5 0 0 D g F [.ref (wad g 58), .int zp0, .int zp1, .int zp2] (fun v g2 u => v = some (.long (s_cell (ln, sz, ce) zp0 zp1 zp2).1) ∧ g = g2 ∧ MI g u (pc, lf) lw (cn, fr, to, hv, dy, an, af) (ln, sz, ce) tr (s_cell (ln, sz, ce) zp0 zp1 zp2).2 ∧ FrO 58 78 F u) := by
  refine CW.start rfl (Nat.le_of_ble_eq_true rfl) ?_
  intro p e s m args below meth c A ls hc hr hlocks hw hl
  have hl : lv_has ls 4 [(0, .ref (wad g 58)), (1, .int zp0), (2, .int zp1), (3, .int zp2)] := hl
  have hx := hc.1
  have hb := hc.2.1
  obtain ⟨hpc6, hpcm, hm6, hpc0, hper⟩ : PI g pc lf := hG.1
  have hlw : lw ≤ 2 := hG.2.1
  have hI : LI pc cn fr to hv dy an af := hG.2.2.1
  have hcn := hI.1
  have hSI : SI ln sz := hG.2.2.2
  have hPM : PM g F pc lf := hMI.1
  have hM : LM F cn fr to hv dy an af := hMI.2.2.1
  have hSM : SM F ln sz ce := hMI.2.2.2.1
  have hK : ∀ q, q < pc → F 62 q = nI (wK g q) ∧ wK g q ≤ 2 := fun q hq => ⟨(hPM.2 q hq).1, (hper q hq).1⟩
  refine lv_aload_n hx hb d_MO_cell_0 rfl (lv_at hl 0 rfl) ?_
  refine lv_iconst (v := nI 0) hx hb d_MO_cell_1 (by decide) ?_
  refine pf_MO_70 hc hw d_MO_cell_2 (fun H locs hw => ?_)
  have hM0 := MI_ft hMI (nI 0)
  have hSM0 : SM _ ln sz ce := hM0.2.2.2.1
  refine lv_iload_n hx hb d_MO_cell_5 rfl (lv_at hl 1 rfl) ?_
  refine kRS hc hw lk_MO_83 (As := [.int zp0]) (rest := []) (c_MO_isSheet l D g _ (zp0)) ⟨Nat.le_of_ble_eq_true rfl, Nat.le_of_ble_eq_true rfl⟩ ⟨Nat.le_refl _, Nat.le_refl _⟩ rfl hl rfl (Nat.le_of_ble_eq_true rfl) d_MO_cell_6 ?_
  refine b_if_eq (tgt := 19) hc d_MO_cell_9 (by decide) (fun c_1 => ?_) (fun c_1 => ?_)
  · try unfold rng at c_1
    refine lv_ldc2 hx hb hc.2.2.2.1 (hc.2.2.2.2 _ g_887) d_MO_cell_19 ?_
    exact W_l hc hw hr hlocks (by refine ⟨congrArg (fun z => some (Value.long z)) ?_, rfl, ?_, (by repeat (first | exact FrO.rf _ _ _ | refine FrO.up ?_ (by omega) (by omega)))⟩; (unfold s_cell flt; (try simp only [inN, rng, show (nI 1).toInt = 1 from rfl]); (repeat' split) <;> first | (exfalso; omega) | contradiction | rfl); (unfold s_cell flt; (try simp only [inN, rng, show (nI 1).toInt = 1 from rfl]); (repeat' split) <;> first | (exfalso; omega) | contradiction | exact hM0)) d_MO_cell_22
  · obtain ⟨zj0, rfl, zj0_1, zj0_2⟩ := rng_nat c_1 (by decide)
    have zj0_e := nI_tI (j := zj0) (by omega)
    have zj0_t := tn_nI (j := zj0) (by omega)
    try unfold rng at c_1
    refine lv_iload_n hx hb d_MO_cell_12 rfl (lv_at hl 3 rfl) ?_
    refine kRS hc hw lk_MO_87 (As := [.int zp2]) (rest := []) (c_MO_isSort l D g _ (zp2)) ⟨Nat.le_of_ble_eq_true rfl, Nat.le_of_ble_eq_true rfl⟩ ⟨Nat.le_refl _, Nat.le_refl _⟩ rfl hl rfl (Nat.le_of_ble_eq_true rfl) d_MO_cell_13 ?_
    refine b_if_ne (tgt := 23) hc d_MO_cell_16 (by decide) (fun c_2 => ?_) (fun c_2 => ?_)
    · obtain ⟨zj2, rfl, zj2_1, zj2_2⟩ := rng_nat c_2 (by decide)
      have zj2_e := nI_tI (j := zj2) (by omega)
      have zj2_t := tn_nI (j := zj2) (by omega)
      try unfold rng at c_2
      refine lv_aload_n hx hb d_MO_cell_23 rfl (lv_at hl 0 rfl) ?_
      refine gf_MO_9 hc hw d_MO_cell_24 ?_
      refine lv_iload_n hx hb d_MO_cell_27 rfl (lv_at hl 1 rfl) ?_
      refine r_iald hc hw (h := 59) (n := 4) (i := zj0) (fun _ => rfl) (by omega) (by omega) (by decide) d_MO_cell_28 (v := .int (oI (ln zj0))) (congrArg Value.int ((u2_h (by decide)).trans ((hSM zj0 (by omega)).1))) ?_
      refine lv_bipush (v := (-9)) hx hb d_MO_cell_29 (by decide) ?_
      refine u_icmp_eq (tgt := 50) (X := (oI (ln zj0)).toInt) (Y := (-9)) hc (rfl) (by decide) d_MO_cell_31 (by decide) (fun c_3 => ?_) (fun c_3 => ?_)
      · have hzn : ln zj0 = none := (oI_no (hSI zj0 (by omega)).2).mp c_3
        refine lv_aload_n hx hb d_MO_cell_50 rfl (lv_at hl 0 rfl) ?_
        refine gf_MO_9 hc hw d_MO_cell_51 ?_
        refine lv_iload_n hx hb d_MO_cell_54 rfl (lv_at hl 1 rfl) ?_
        refine r_iald hc hw (h := 59) (n := 4) (i := zj0) (fun _ => rfl) (by omega) (by omega) (by decide) d_MO_cell_55 (v := .int (oI (ln zj0))) (congrArg Value.int ((u2_h (by decide)).trans ((hSM zj0 (by omega)).1))) ?_
        refine lv_bipush (v := (-9)) hx hb d_MO_cell_56 (by decide) ?_
        refine u_icmp_ne (tgt := 67) (X := (oI (ln zj0)).toInt) (Y := (-9)) hc (rfl) (by decide) d_MO_cell_58 (by decide) (fun c_4 => ?_) (fun c_4 => ?_)
        · have hzn2 : ¬ ln zj0 = none := fun q => c_4 ((oI_no (hSI zj0 (by omega)).2).mpr q)
          refine lv_iload_n hx hb d_MO_cell_67 rfl (lv_at hl 2 rfl) ?_
          refine lv_iconst (v := nI 0) hx hb d_MO_cell_68 (by decide) ?_
          refine lv_aload_n hx hb d_MO_cell_69 rfl (lv_at hl 0 rfl) ?_
          refine gf_MO_13 hc hw d_MO_cell_70 ?_
          refine lv_iload_n hx hb d_MO_cell_73 rfl (lv_at hl 1 rfl) ?_
          refine r_iald hc hw (h := 60) (n := 4) (i := zj0) (fun _ => rfl) (by omega) (by omega) (by decide) d_MO_cell_74 (v := .int (nI (sz zj0))) (congrArg Value.int ((u2_h (by decide)).trans ((hSM zj0 (by omega)).2.1))) ?_
          refine lv_iconst (v := nI 1) hx hb d_MO_cell_75 (by decide) ?_
          refine lv_isub hx hb d_MO_cell_76 ?_
          have hsz := (hSI zj0 (by omega)).1
          have hsz1 := pk_sub_toInt (a := sz zj0) (b := 1) (by omega) (by decide)
          refine kRS hc hw lk_MO_76 (As := [.int zp1, .int (nI 0), .int ((nI (sz zj0)) - (nI 1))]) (rest := []) (c_MO_within l D g _ (zp1) (nI 0) ((nI (sz zj0)) - (nI 1)) 0 ((nI (sz zj0)) - (nI 1)).toInt (by decide) (rfl)) ⟨Nat.le_of_ble_eq_true rfl, Nat.le_of_ble_eq_true rfl⟩ ⟨Nat.le_refl _, Nat.le_refl _⟩ rfl hl rfl (Nat.le_of_ble_eq_true rfl) d_MO_cell_77 ?_
          refine b_if_ne (tgt := 89) hc d_MO_cell_80 (by decide) (fun c_5 => ?_) (fun c_5 => ?_)
          · obtain ⟨zj1, rfl, zj1_1, zj1_2⟩ := rng_nat c_5 (by decide)
            have zj1_e := nI_tI (j := zj1) (by omega)
            have zj1_t := tn_nI (j := zj1) (by omega)
            try unfold rng at c_5
            refine lv_aload_n hx hb d_MO_cell_89 rfl (lv_at hl 0 rfl) ?_
            refine gf_MO_16 hc hw d_MO_cell_90 ?_
            refine lv_bipush (v := nI 40) hx hb d_MO_cell_93 (by decide) ?_
            refine lv_iload_n hx hb d_MO_cell_95 rfl (lv_at hl 1 rfl) ?_
            refine q_imul hc d_MO_cell_96 ?_
            refine lv_iload_n hx hb d_MO_cell_97 rfl (lv_at hl 2 rfl) ?_
            refine q_iadd hc d_MO_cell_98 ?_
            refine r_iald hc hw (h := 61) (n := 160) (i := (40 * zj0) + zj1) (fun _ => rfl) (by omega) (by omega) (by decide) d_MO_cell_99 (v := .int (ce zj0 zj1)) (congrArg Value.int ((u2_h (by decide)).trans ((hSM zj0 (by omega)).2.2 zj1 (by omega)))) ?_
            refine lv_i2l (v := (ce zj0 zj1).toInt64) hx hb d_MO_cell_100 rfl ?_
            exact W_l hc hw hr hlocks (by refine ⟨congrArg (fun z => some (Value.long z)) ?_, rfl, ?_, (by repeat (first | exact FrO.rf _ _ _ | refine FrO.up ?_ (by omega) (by omega)))⟩; (unfold s_cell flt; (try simp only [inN, rng, zj0_t, zj0_e, zj2_t, zj2_e, zj1_t, zj1_e, show (nI 1).toInt = 1 from rfl]); (repeat' split) <;> first | (exfalso; omega) | contradiction | rfl); (unfold s_cell flt; (try simp only [inN, rng, zj0_t, zj0_e, zj2_t, zj2_e, zj1_t, zj1_e, show (nI 1).toInt = 1 from rfl]); (repeat' split) <;> first | (exfalso; omega) | contradiction | exact hM0)) d_MO_cell_101
          · try unfold rng at c_5
            refine lv_aload_n hx hb d_MO_cell_83 rfl (lv_at hl 0 rfl) ?_
            refine lv_iconst (v := nI 3) hx hb d_MO_cell_84 (by decide) ?_
            refine kWV hc hw lk_MO_186 (h := 58) (As := [.int (nI 3)]) (rest := []) (c_MO_lost l D g _ 3) (rc_MO hw) ⟨Nat.le_of_ble_eq_true rfl, Nat.le_of_ble_eq_true rfl⟩ ⟨Nat.le_refl _, Nat.le_refl _⟩ rfl hl rfl (Nat.le_of_ble_eq_true rfl) d_MO_cell_85 (fun v_6 g_7 F_8 H locs zhp_9 hw => ?_)
            obtain ⟨rfl, rfl, rfl⟩ := zhp_9
            exact W_l hc hw hr hlocks (by refine ⟨congrArg (fun z => some (Value.long z)) ?_, rfl, ?_, (by repeat (first | exact FrO.rf _ _ _ | refine FrO.up ?_ (by omega) (by omega)))⟩; (unfold s_cell flt; (try simp only [inN, rng, zj0_t, zj0_e, zj2_t, zj2_e, show (nI 1).toInt = 1 from rfl]); (repeat' split) <;> first | (exfalso; omega) | contradiction | rfl); (unfold s_cell flt; (try simp only [inN, rng, zj0_t, zj0_e, zj2_t, zj2_e, show (nI 1).toInt = 1 from rfl]); (repeat' split) <;> first | (exfalso; omega) | contradiction | exact MI_ft hM0 _)) d_MO_cell_88
        · have hzn2 : ln zj0 = none := (oI_no (hSI zj0 (by omega)).2).mp c_4
          refine lv_aload_n hx hb d_MO_cell_61 rfl (lv_at hl 0 rfl) ?_
          refine lv_iconst (v := nI 1) hx hb d_MO_cell_62 (by decide) ?_
          refine kWV hc hw lk_MO_186 (h := 58) (As := [.int (nI 1)]) (rest := []) (c_MO_lost l D g _ 1) (rc_MO hw) ⟨Nat.le_of_ble_eq_true rfl, Nat.le_of_ble_eq_true rfl⟩ ⟨Nat.le_refl _, Nat.le_refl _⟩ rfl hl rfl (Nat.le_of_ble_eq_true rfl) d_MO_cell_63 (fun v_10 g_11 F_12 H locs zhp_13 hw => ?_)
          obtain ⟨rfl, rfl, rfl⟩ := zhp_13
          exact W_l hc hw hr hlocks (by refine ⟨congrArg (fun z => some (Value.long z)) ?_, rfl, ?_, (by repeat (first | exact FrO.rf _ _ _ | refine FrO.up ?_ (by omega) (by omega)))⟩; (unfold s_cell flt; (try simp only [inN, rng, zj0_t, zj0_e, zj2_t, zj2_e, show (nI 1).toInt = 1 from rfl]); (repeat' split) <;> first | (exfalso; omega) | contradiction | rfl); (unfold s_cell flt; (try simp only [inN, rng, zj0_t, zj0_e, zj2_t, zj2_e, show (nI 1).toInt = 1 from rfl]); (repeat' split) <;> first | (exfalso; omega) | contradiction | exact MI_ft hM0 _)) d_MO_cell_66
      · have hzn : ¬ ln zj0 = none := fun q => c_3 ((oI_no (hSI zj0 (by omega)).2).mpr q)
        have hme := oI_mI hzn
        refine lv_aload_n hx hb d_MO_cell_34 rfl (lv_at hl 0 rfl) ?_
        refine gf_MO_9 hc hw d_MO_cell_35 ?_
        refine lv_iload_n hx hb d_MO_cell_38 rfl (lv_at hl 1 rfl) ?_
        refine r_iald hc hw (h := 59) (n := 4) (i := zj0) (fun _ => rfl) (by omega) (by omega) (by decide) d_MO_cell_39 (v := .int (oI (ln zj0))) (congrArg Value.int ((u2_h (by decide)).trans ((hSM zj0 (by omega)).1))) ?_
        refine lv_iload_n hx hb d_MO_cell_40 rfl (lv_at hl 3 rfl) ?_
        refine u_icmp_eq (tgt := 50) (X := (oI (ln zj0)).toInt) (Y := ((zj2 : Nat) : Int)) hc (rfl) (nI_tI (by omega)) d_MO_cell_41 (by decide) (fun c_14 => ?_) (fun c_14 => ?_)
        · refine lv_aload_n hx hb d_MO_cell_50 rfl (lv_at hl 0 rfl) ?_
          refine gf_MO_9 hc hw d_MO_cell_51 ?_
          refine lv_iload_n hx hb d_MO_cell_54 rfl (lv_at hl 1 rfl) ?_
          refine r_iald hc hw (h := 59) (n := 4) (i := zj0) (fun _ => rfl) (by omega) (by omega) (by decide) d_MO_cell_55 (v := .int (oI (ln zj0))) (congrArg Value.int ((u2_h (by decide)).trans ((hSM zj0 (by omega)).1))) ?_
          refine lv_bipush (v := (-9)) hx hb d_MO_cell_56 (by decide) ?_
          refine u_icmp_ne (tgt := 67) (X := (oI (ln zj0)).toInt) (Y := (-9)) hc (rfl) (by decide) d_MO_cell_58 (by decide) (fun c_15 => ?_) (fun c_15 => ?_)
          · have hzn2 : ¬ ln zj0 = none := fun q => c_15 ((oI_no (hSI zj0 (by omega)).2).mpr q)
            refine lv_iload_n hx hb d_MO_cell_67 rfl (lv_at hl 2 rfl) ?_
            refine lv_iconst (v := nI 0) hx hb d_MO_cell_68 (by decide) ?_
            refine lv_aload_n hx hb d_MO_cell_69 rfl (lv_at hl 0 rfl) ?_
            refine gf_MO_13 hc hw d_MO_cell_70 ?_
            refine lv_iload_n hx hb d_MO_cell_73 rfl (lv_at hl 1 rfl) ?_
            refine r_iald hc hw (h := 60) (n := 4) (i := zj0) (fun _ => rfl) (by omega) (by omega) (by decide) d_MO_cell_74 (v := .int (nI (sz zj0))) (congrArg Value.int ((u2_h (by decide)).trans ((hSM zj0 (by omega)).2.1))) ?_
            refine lv_iconst (v := nI 1) hx hb d_MO_cell_75 (by decide) ?_
            refine lv_isub hx hb d_MO_cell_76 ?_
            have hsz := (hSI zj0 (by omega)).1
            have hsz1 := pk_sub_toInt (a := sz zj0) (b := 1) (by omega) (by decide)
            refine kRS hc hw lk_MO_76 (As := [.int zp1, .int (nI 0), .int ((nI (sz zj0)) - (nI 1))]) (rest := []) (c_MO_within l D g _ (zp1) (nI 0) ((nI (sz zj0)) - (nI 1)) 0 ((nI (sz zj0)) - (nI 1)).toInt (by decide) (rfl)) ⟨Nat.le_of_ble_eq_true rfl, Nat.le_of_ble_eq_true rfl⟩ ⟨Nat.le_refl _, Nat.le_refl _⟩ rfl hl rfl (Nat.le_of_ble_eq_true rfl) d_MO_cell_77 ?_
            refine b_if_ne (tgt := 89) hc d_MO_cell_80 (by decide) (fun c_16 => ?_) (fun c_16 => ?_)
            · obtain ⟨zj1, rfl, zj1_1, zj1_2⟩ := rng_nat c_16 (by decide)
              have zj1_e := nI_tI (j := zj1) (by omega)
              have zj1_t := tn_nI (j := zj1) (by omega)
              try unfold rng at c_16
              refine lv_aload_n hx hb d_MO_cell_89 rfl (lv_at hl 0 rfl) ?_
              refine gf_MO_16 hc hw d_MO_cell_90 ?_
              refine lv_bipush (v := nI 40) hx hb d_MO_cell_93 (by decide) ?_
              refine lv_iload_n hx hb d_MO_cell_95 rfl (lv_at hl 1 rfl) ?_
              refine q_imul hc d_MO_cell_96 ?_
              refine lv_iload_n hx hb d_MO_cell_97 rfl (lv_at hl 2 rfl) ?_
              refine q_iadd hc d_MO_cell_98 ?_
              refine r_iald hc hw (h := 61) (n := 160) (i := (40 * zj0) + zj1) (fun _ => rfl) (by omega) (by omega) (by decide) d_MO_cell_99 (v := .int (ce zj0 zj1)) (congrArg Value.int ((u2_h (by decide)).trans ((hSM zj0 (by omega)).2.2 zj1 (by omega)))) ?_
              refine lv_i2l (v := (ce zj0 zj1).toInt64) hx hb d_MO_cell_100 rfl ?_
              exact W_l hc hw hr hlocks (by refine ⟨congrArg (fun z => some (Value.long z)) ?_, rfl, ?_, (by repeat (first | exact FrO.rf _ _ _ | refine FrO.up ?_ (by omega) (by omega)))⟩; (unfold s_cell flt; (try simp only [inN, rng, zj0_t, zj0_e, zj2_t, zj2_e, zj1_t, zj1_e, show (nI 1).toInt = 1 from rfl]); (repeat' split) <;> first | (exfalso; omega) | contradiction | rfl); (unfold s_cell flt; (try simp only [inN, rng, zj0_t, zj0_e, zj2_t, zj2_e, zj1_t, zj1_e, show (nI 1).toInt = 1 from rfl]); (repeat' split) <;> first | (exfalso; omega) | contradiction | exact hM0)) d_MO_cell_101
            · try unfold rng at c_16
              refine lv_aload_n hx hb d_MO_cell_83 rfl (lv_at hl 0 rfl) ?_
              refine lv_iconst (v := nI 3) hx hb d_MO_cell_84 (by decide) ?_
              refine kWV hc hw lk_MO_186 (h := 58) (As := [.int (nI 3)]) (rest := []) (c_MO_lost l D g _ 3) (rc_MO hw) ⟨Nat.le_of_ble_eq_true rfl, Nat.le_of_ble_eq_true rfl⟩ ⟨Nat.le_refl _, Nat.le_refl _⟩ rfl hl rfl (Nat.le_of_ble_eq_true rfl) d_MO_cell_85 (fun v_17 g_18 F_19 H locs zhp_20 hw => ?_)
              obtain ⟨rfl, rfl, rfl⟩ := zhp_20
              exact W_l hc hw hr hlocks (by refine ⟨congrArg (fun z => some (Value.long z)) ?_, rfl, ?_, (by repeat (first | exact FrO.rf _ _ _ | refine FrO.up ?_ (by omega) (by omega)))⟩; (unfold s_cell flt; (try simp only [inN, rng, zj0_t, zj0_e, zj2_t, zj2_e, show (nI 1).toInt = 1 from rfl]); (repeat' split) <;> first | (exfalso; omega) | contradiction | rfl); (unfold s_cell flt; (try simp only [inN, rng, zj0_t, zj0_e, zj2_t, zj2_e, show (nI 1).toInt = 1 from rfl]); (repeat' split) <;> first | (exfalso; omega) | contradiction | exact MI_ft hM0 _)) d_MO_cell_88
          · have hzn2 : ln zj0 = none := (oI_no (hSI zj0 (by omega)).2).mp c_15
            refine lv_aload_n hx hb d_MO_cell_61 rfl (lv_at hl 0 rfl) ?_
            refine lv_iconst (v := nI 1) hx hb d_MO_cell_62 (by decide) ?_
            refine kWV hc hw lk_MO_186 (h := 58) (As := [.int (nI 1)]) (rest := []) (c_MO_lost l D g _ 1) (rc_MO hw) ⟨Nat.le_of_ble_eq_true rfl, Nat.le_of_ble_eq_true rfl⟩ ⟨Nat.le_refl _, Nat.le_refl _⟩ rfl hl rfl (Nat.le_of_ble_eq_true rfl) d_MO_cell_63 (fun v_21 g_22 F_23 H locs zhp_24 hw => ?_)
            obtain ⟨rfl, rfl, rfl⟩ := zhp_24
            exact W_l hc hw hr hlocks (by refine ⟨congrArg (fun z => some (Value.long z)) ?_, rfl, ?_, (by repeat (first | exact FrO.rf _ _ _ | refine FrO.up ?_ (by omega) (by omega)))⟩; (unfold s_cell flt; (try simp only [inN, rng, zj0_t, zj0_e, zj2_t, zj2_e, show (nI 1).toInt = 1 from rfl]); (repeat' split) <;> first | (exfalso; omega) | contradiction | rfl); (unfold s_cell flt; (try simp only [inN, rng, zj0_t, zj0_e, zj2_t, zj2_e, show (nI 1).toInt = 1 from rfl]); (repeat' split) <;> first | (exfalso; omega) | contradiction | exact MI_ft hM0 _)) d_MO_cell_66
        · refine lv_aload_n hx hb d_MO_cell_44 rfl (lv_at hl 0 rfl) ?_
          refine lv_iconst (v := nI 2) hx hb d_MO_cell_45 (by decide) ?_
          refine kWV hc hw lk_MO_186 (h := 58) (As := [.int (nI 2)]) (rest := []) (c_MO_lost l D g _ 2) (rc_MO hw) ⟨Nat.le_of_ble_eq_true rfl, Nat.le_of_ble_eq_true rfl⟩ ⟨Nat.le_refl _, Nat.le_refl _⟩ rfl hl rfl (Nat.le_of_ble_eq_true rfl) d_MO_cell_46 (fun v_25 g_26 F_27 H locs zhp_28 hw => ?_)
          obtain ⟨rfl, rfl, rfl⟩ := zhp_28
          exact W_l hc hw hr hlocks (by refine ⟨congrArg (fun z => some (Value.long z)) ?_, rfl, ?_, (by repeat (first | exact FrO.rf _ _ _ | refine FrO.up ?_ (by omega) (by omega)))⟩; (unfold s_cell flt; (try simp only [inN, rng, zj0_t, zj0_e, zj2_t, zj2_e, show (nI 1).toInt = 1 from rfl]); (repeat' split) <;> first | (exfalso; omega) | contradiction | rfl); (unfold s_cell flt; (try simp only [inN, rng, zj0_t, zj0_e, zj2_t, zj2_e, show (nI 1).toInt = 1 from rfl]); (repeat' split) <;> first | (exfalso; omega) | contradiction | exact MI_ft hM0 _)) d_MO_cell_49
    · try unfold rng at c_2
      refine lv_ldc2 hx hb hc.2.2.2.1 (hc.2.2.2.2 _ g_887) d_MO_cell_19 ?_
      exact W_l hc hw hr hlocks (by refine ⟨congrArg (fun z => some (Value.long z)) ?_, rfl, ?_, (by repeat (first | exact FrO.rf _ _ _ | refine FrO.up ?_ (by omega) (by omega)))⟩; (unfold s_cell flt; (try simp only [inN, rng, zj0_t, zj0_e, show (nI 1).toInt = 1 from rfl]); (repeat' split) <;> first | (exfalso; omega) | contradiction | rfl); (unfold s_cell flt; (try simp only [inN, rng, zj0_t, zj0_e, show (nI 1).toInt = 1 from rfl]); (repeat' split) <;> first | (exfalso; omega) | contradiction | exact hM0)) d_MO_cell_22
set_option maxHeartbeats 4000000 in
theorem c_MO_copy (l : Launch) (D : va_G) (g : wG) (F : wF) (pc : Nat) (lf : Nat → Nat) (lw : Nat) (cn : Nat) (fr to hv dy : Nat → Nat) (an af : Nat → Option Nat) (ln : Nat → Option Nat) (sz : Nat → Nat) (ce : Nat → Nat → Int32) (tr ft : Int32) (hG : GI g (pc, lf) lw (cn, fr, to, hv, dy, an, af) (ln, sz, ce)) (hMI : MI g F (pc, lf) lw (cn, fr, to, hv, dy, an, af) (ln, sz, ce) tr ft) (zp0 zp1 zp2 zp3 zp4 : Int32) : CW l y_MO_copy b_MO_copy 10 (Option.some Jvm.ClassFile.FieldType.int) 5 0 0 D g F [.ref (wad g 58), .int zp0, .int zp1, .int zp2, .int zp3, .int zp4] (fun v g2 u => v = some (.int (s_copy (ln, sz, ce) zp0 zp1 zp2 zp3 zp4).1) ∧ g = g2 ∧ MI g u (pc, lf) lw (cn, fr, to, hv, dy, an, af) (s_copy (ln, sz, ce) zp0 zp1 zp2 zp3 zp4).2.1 tr (s_copy (ln, sz, ce) zp0 zp1 zp2 zp3 zp4).2.2 ∧ FrO 58 78 F u) := by
  refine CW.start rfl (Nat.le_of_ble_eq_true rfl) ?_
  intro p e s m args below meth c A ls hc hr hlocks hw hl
  have hl : lv_has ls 10 [(0, .ref (wad g 58)), (1, .int zp0), (2, .int zp1), (3, .int zp2), (4, .int zp3), (5, .int zp4)] := hl
  have hx := hc.1
  have hb := hc.2.1
  obtain ⟨hpc6, hpcm, hm6, hpc0, hper⟩ : PI g pc lf := hG.1
  have hlw : lw ≤ 2 := hG.2.1
  have hI : LI pc cn fr to hv dy an af := hG.2.2.1
  have hcn := hI.1
  have hSI : SI ln sz := hG.2.2.2
  have hPM : PM g F pc lf := hMI.1
  have hM : LM F cn fr to hv dy an af := hMI.2.2.1
  have hSM : SM F ln sz ce := hMI.2.2.2.1
  have hK : ∀ q, q < pc → F 62 q = nI (wK g q) ∧ wK g q ≤ 2 := fun q hq => ⟨(hPM.2 q hq).1, (hper q hq).1⟩
  refine lv_aload_n hx hb d_MO_copy_0 rfl (lv_at hl 0 rfl) ?_
  refine lv_iconst (v := nI 0) hx hb d_MO_copy_1 (by decide) ?_
  refine pf_MO_70 hc hw d_MO_copy_2 (fun H locs hw => ?_)
  have hM0 := MI_ft hMI (nI 0)
  have hSM0 : SM _ ln sz ce := hM0.2.2.2.1
  refine lv_iload_n hx hb d_MO_copy_5 rfl (lv_at hl 1 rfl) ?_
  refine kRS hc hw lk_MO_83 (As := [.int zp0]) (rest := []) (c_MO_isSheet l D g _ (zp0)) ⟨Nat.le_of_ble_eq_true rfl, Nat.le_of_ble_eq_true rfl⟩ ⟨Nat.le_refl _, Nat.le_refl _⟩ rfl hl rfl (Nat.le_of_ble_eq_true rfl) d_MO_copy_6 ?_
  refine b_if_eq (tgt := 19) hc d_MO_copy_9 (by decide) (fun c_1 => ?_) (fun c_1 => ?_)
  · try unfold rng at c_1
    refine lv_iconst (v := (-1)) hx hb d_MO_copy_19 (by decide) ?_
    exact W_i hc hw hr hlocks (by refine ⟨congrArg (fun z => some (Value.int z)) ?_, rfl, ?_, (by repeat (first | exact FrO.rf _ _ _ | refine FrO.up ?_ (by omega) (by omega)))⟩; (unfold s_copy; (try simp only [inN, rng]); (repeat' split) <;> first | (exfalso; omega) | contradiction | rfl); (unfold s_copy; (try simp only [inN, rng]); (repeat' split) <;> first | (exfalso; omega) | contradiction | exact hM0)) d_MO_copy_20
  · obtain ⟨zj0, rfl, zj0_1, zj0_2⟩ := rng_nat c_1 (by decide)
    have zj0_e := nI_tI (j := zj0) (by omega)
    have zj0_t := tn_nI (j := zj0) (by omega)
    try unfold rng at c_1
    refine lv_iload_n hx hb d_MO_copy_12 rfl (lv_at hl 3 rfl) ?_
    refine kRS hc hw lk_MO_83 (As := [.int zp2]) (rest := []) (c_MO_isSheet l D g _ (zp2)) ⟨Nat.le_of_ble_eq_true rfl, Nat.le_of_ble_eq_true rfl⟩ ⟨Nat.le_refl _, Nat.le_refl _⟩ rfl hl rfl (Nat.le_of_ble_eq_true rfl) d_MO_copy_13 ?_
    refine b_if_ne (tgt := 21) hc d_MO_copy_16 (by decide) (fun c_2 => ?_) (fun c_2 => ?_)
    · obtain ⟨zj2, rfl, zj2_1, zj2_2⟩ := rng_nat c_2 (by decide)
      have zj2_e := nI_tI (j := zj2) (by omega)
      have zj2_t := tn_nI (j := zj2) (by omega)
      try unfold rng at c_2
      refine lv_aload_n hx hb d_MO_copy_21 rfl (lv_at hl 0 rfl) ?_
      refine gf_MO_9 hc hw d_MO_copy_22 ?_
      refine lv_iload_n hx hb d_MO_copy_25 rfl (lv_at hl 1 rfl) ?_
      refine r_iald hc hw (h := 59) (n := 4) (i := zj0) (fun _ => rfl) (by omega) (by omega) (by decide) d_MO_copy_26 (v := .int (oI (ln zj0))) (congrArg Value.int ((u2_h (by decide)).trans ((hSM zj0 (by omega)).1))) ?_
      refine lv_bipush (v := (-9)) hx hb d_MO_copy_27 (by decide) ?_
      refine u_icmp_eq (tgt := 43) (X := (oI (ln zj0)).toInt) (Y := (-9)) hc (rfl) (by decide) d_MO_copy_29 (by decide) (fun c_3 => ?_) (fun c_3 => ?_)
      · have hzn0 : ln zj0 = none := (oI_no (hSI zj0 (by omega)).2).mp c_3
        refine lv_aload_n hx hb d_MO_copy_43 rfl (lv_at hl 0 rfl) ?_
        refine lv_iconst (v := nI 1) hx hb d_MO_copy_44 (by decide) ?_
        refine kWV hc hw lk_MO_94 (h := 58) (As := [.int (nI 1)]) (rest := []) (c_MO_fails l D g _ 1) (rc_MO hw) ⟨Nat.le_of_ble_eq_true rfl, Nat.le_of_ble_eq_true rfl⟩ ⟨Nat.le_refl _, Nat.le_refl _⟩ rfl hl rfl (Nat.le_of_ble_eq_true rfl) d_MO_copy_45 (fun v_4 g_5 F_6 H locs zhp_7 hw => ?_)
        obtain ⟨rfl, rfl, rfl⟩ := zhp_7
        exact W_i hc hw hr hlocks (by refine ⟨congrArg (fun z => some (Value.int z)) ?_, rfl, ?_, (by repeat (first | exact FrO.rf _ _ _ | refine FrO.up ?_ (by omega) (by omega)))⟩; (unfold s_copy; (try simp only [inN, rng, zj0_t, zj0_e, zj2_t, zj2_e]); (repeat' split) <;> first | (exfalso; omega) | contradiction | rfl); (unfold s_copy; (try simp only [inN, rng, zj0_t, zj0_e, zj2_t, zj2_e]); (repeat' split) <;> first | (exfalso; omega) | contradiction | exact MI_ft hM0 _)) d_MO_copy_48
      · have hzn0 : ¬ ln zj0 = none := fun q => c_3 ((oI_no (hSI zj0 (by omega)).2).mpr q)
        refine lv_aload_n hx hb d_MO_copy_32 rfl (lv_at hl 0 rfl) ?_
        refine gf_MO_9 hc hw d_MO_copy_33 ?_
        refine lv_iload_n hx hb d_MO_copy_36 rfl (lv_at hl 3 rfl) ?_
        refine r_iald hc hw (h := 59) (n := 4) (i := zj2) (fun _ => rfl) (by omega) (by omega) (by decide) d_MO_copy_37 (v := .int (oI (ln zj2))) (congrArg Value.int ((u2_h (by decide)).trans ((hSM zj2 (by omega)).1))) ?_
        refine lv_bipush (v := (-9)) hx hb d_MO_copy_38 (by decide) ?_
        refine u_icmp_ne (tgt := 49) (X := (oI (ln zj2)).toInt) (Y := (-9)) hc (rfl) (by decide) d_MO_copy_40 (by decide) (fun c_8 => ?_) (fun c_8 => ?_)
        · have hzn2 : ¬ ln zj2 = none := fun q => c_8 ((oI_no (hSI zj2 (by omega)).2).mpr q)
          refine lv_aload_n hx hb d_MO_copy_49 rfl (lv_at hl 0 rfl) ?_
          refine gf_MO_9 hc hw d_MO_copy_50 ?_
          refine lv_iload_n hx hb d_MO_copy_53 rfl (lv_at hl 1 rfl) ?_
          refine r_iald hc hw (h := 59) (n := 4) (i := zj0) (fun _ => rfl) (by omega) (by omega) (by decide) d_MO_copy_54 (v := .int (oI (ln zj0))) (congrArg Value.int ((u2_h (by decide)).trans ((hSM zj0 (by omega)).1))) ?_
          refine lv_aload_n hx hb d_MO_copy_55 rfl (lv_at hl 0 rfl) ?_
          refine gf_MO_9 hc hw d_MO_copy_56 ?_
          refine lv_iload_n hx hb d_MO_copy_59 rfl (lv_at hl 3 rfl) ?_
          refine r_iald hc hw (h := 59) (n := 4) (i := zj2) (fun _ => rfl) (by omega) (by omega) (by decide) d_MO_copy_60 (v := .int (oI (ln zj2))) (congrArg Value.int ((u2_h (by decide)).trans ((hSM zj2 (by omega)).1))) ?_
          refine u_icmp_eq (tgt := 70) (X := (oI (ln zj0)).toInt) (Y := (oI (ln zj2)).toInt) hc (rfl) (rfl) d_MO_copy_61 (by decide) (fun c_9 => ?_) (fun c_9 => ?_)
          · have hlq : ln zj0 = ln zj2 := oI_inj (hSI zj0 (by omega)).2 (hSI zj2 (by omega)).2 c_9
            have hsz0 := (hSI zj0 (by omega)).1
            have hsz2 := (hSI zj2 (by omega)).1
            refine lv_iload_n hx hb d_MO_copy_70 rfl (lv_at hl 2 rfl) ?_
            refine u_if_lt (tgt := 109) (X := (zp1).toInt) hc (rfl) d_MO_copy_71 (by decide) (fun c_10 => ?_) (fun c_10 => ?_)
            · refine lv_iconst (v := nI 0) hx hb d_MO_copy_109 (by decide) ?_
              refine lv_istore (lv' := [(6, .int (nI 0)), (0, .ref (wad g 58)), (1, .int (nI zj0)), (2, .int zp1), (3, .int (nI zj2)), (4, .int zp3), (5, .int zp4)]) hx hb d_MO_copy_110 hl (by decide) rfl (fun ls hl => ?_)
              refine lv_iload hx hb d_MO_copy_112 (lv_at hl 0 rfl) ?_
              refine q_if_eq (tgt := 144) hc (by omega) d_MO_copy_114 (by decide) (fun c_11 => ?_) (fun c_11 => ?_)
              · refine lv_aload_n hx hb d_MO_copy_144 rfl (lv_at hl 1 rfl) ?_
                refine lv_iconst (v := nI 3) hx hb d_MO_copy_145 (by decide) ?_
                refine kWV hc hw lk_MO_94 (h := 58) (As := [.int (nI 3)]) (rest := []) (c_MO_fails l D g _ 3) (rc_MO hw) ⟨Nat.le_of_ble_eq_true rfl, Nat.le_of_ble_eq_true rfl⟩ ⟨Nat.le_refl _, Nat.le_refl _⟩ rfl hl rfl (Nat.le_of_ble_eq_true rfl) d_MO_copy_146 (fun v_12 g_13 F_14 H locs zhp_15 hw => ?_)
                obtain ⟨rfl, rfl, rfl⟩ := zhp_15
                exact W_i hc hw hr hlocks (by refine ⟨congrArg (fun z => some (Value.int z)) ?_, rfl, ?_, (by repeat (first | exact FrO.rf _ _ _ | refine FrO.up ?_ (by omega) (by omega)))⟩; (unfold s_copy; (try simp only [inN, rng, zj0_t, zj0_e, zj2_t, zj2_e]); (repeat' split) <;> first | (exfalso; omega) | contradiction | rfl); (unfold s_copy; (try simp only [inN, rng, zj0_t, zj0_e, zj2_t, zj2_e]); (repeat' split) <;> first | (exfalso; omega) | contradiction | exact MI_ft hM0 _)) d_MO_copy_149
              · exact absurd c_11 (by first | omega | decide)
            · refine lv_iload hx hb d_MO_copy_74 (lv_at hl 4 rfl) ?_
              refine u_if_lt (tgt := 109) (X := (zp3).toInt) hc (rfl) d_MO_copy_76 (by decide) (fun c_16 => ?_) (fun c_16 => ?_)
              · refine lv_iconst (v := nI 0) hx hb d_MO_copy_109 (by decide) ?_
                refine lv_istore (lv' := [(6, .int (nI 0)), (0, .ref (wad g 58)), (1, .int (nI zj0)), (2, .int zp1), (3, .int (nI zj2)), (4, .int zp3), (5, .int zp4)]) hx hb d_MO_copy_110 hl (by decide) rfl (fun ls hl => ?_)
                refine lv_iload hx hb d_MO_copy_112 (lv_at hl 0 rfl) ?_
                refine q_if_eq (tgt := 144) hc (by omega) d_MO_copy_114 (by decide) (fun c_17 => ?_) (fun c_17 => ?_)
                · refine lv_aload_n hx hb d_MO_copy_144 rfl (lv_at hl 1 rfl) ?_
                  refine lv_iconst (v := nI 3) hx hb d_MO_copy_145 (by decide) ?_
                  refine kWV hc hw lk_MO_94 (h := 58) (As := [.int (nI 3)]) (rest := []) (c_MO_fails l D g _ 3) (rc_MO hw) ⟨Nat.le_of_ble_eq_true rfl, Nat.le_of_ble_eq_true rfl⟩ ⟨Nat.le_refl _, Nat.le_refl _⟩ rfl hl rfl (Nat.le_of_ble_eq_true rfl) d_MO_copy_146 (fun v_18 g_19 F_20 H locs zhp_21 hw => ?_)
                  obtain ⟨rfl, rfl, rfl⟩ := zhp_21
                  exact W_i hc hw hr hlocks (by refine ⟨congrArg (fun z => some (Value.int z)) ?_, rfl, ?_, (by repeat (first | exact FrO.rf _ _ _ | refine FrO.up ?_ (by omega) (by omega)))⟩; (unfold s_copy; (try simp only [inN, rng, zj0_t, zj0_e, zj2_t, zj2_e]); (repeat' split) <;> first | (exfalso; omega) | contradiction | rfl); (unfold s_copy; (try simp only [inN, rng, zj0_t, zj0_e, zj2_t, zj2_e]); (repeat' split) <;> first | (exfalso; omega) | contradiction | exact MI_ft hM0 _)) d_MO_copy_149
                · exact absurd c_17 (by first | omega | decide)
              · refine lv_iload hx hb d_MO_copy_79 (lv_at hl 5 rfl) ?_
                refine u_if_lt (tgt := 109) (X := (zp4).toInt) hc (rfl) d_MO_copy_81 (by decide) (fun c_22 => ?_) (fun c_22 => ?_)
                · refine lv_iconst (v := nI 0) hx hb d_MO_copy_109 (by decide) ?_
                  refine lv_istore (lv' := [(6, .int (nI 0)), (0, .ref (wad g 58)), (1, .int (nI zj0)), (2, .int zp1), (3, .int (nI zj2)), (4, .int zp3), (5, .int zp4)]) hx hb d_MO_copy_110 hl (by decide) rfl (fun ls hl => ?_)
                  refine lv_iload hx hb d_MO_copy_112 (lv_at hl 0 rfl) ?_
                  refine q_if_eq (tgt := 144) hc (by omega) d_MO_copy_114 (by decide) (fun c_23 => ?_) (fun c_23 => ?_)
                  · refine lv_aload_n hx hb d_MO_copy_144 rfl (lv_at hl 1 rfl) ?_
                    refine lv_iconst (v := nI 3) hx hb d_MO_copy_145 (by decide) ?_
                    refine kWV hc hw lk_MO_94 (h := 58) (As := [.int (nI 3)]) (rest := []) (c_MO_fails l D g _ 3) (rc_MO hw) ⟨Nat.le_of_ble_eq_true rfl, Nat.le_of_ble_eq_true rfl⟩ ⟨Nat.le_refl _, Nat.le_refl _⟩ rfl hl rfl (Nat.le_of_ble_eq_true rfl) d_MO_copy_146 (fun v_24 g_25 F_26 H locs zhp_27 hw => ?_)
                    obtain ⟨rfl, rfl, rfl⟩ := zhp_27
                    exact W_i hc hw hr hlocks (by refine ⟨congrArg (fun z => some (Value.int z)) ?_, rfl, ?_, (by repeat (first | exact FrO.rf _ _ _ | refine FrO.up ?_ (by omega) (by omega)))⟩; (unfold s_copy; (try simp only [inN, rng, zj0_t, zj0_e, zj2_t, zj2_e]); (repeat' split) <;> first | (exfalso; omega) | contradiction | rfl); (unfold s_copy; (try simp only [inN, rng, zj0_t, zj0_e, zj2_t, zj2_e]); (repeat' split) <;> first | (exfalso; omega) | contradiction | exact MI_ft hM0 _)) d_MO_copy_149
                  · exact absurd c_23 (by first | omega | decide)
                · refine lv_iload_n hx hb d_MO_copy_84 rfl (lv_at hl 2 rfl) ?_
                  refine lv_aload_n hx hb d_MO_copy_85 rfl (lv_at hl 0 rfl) ?_
                  refine gf_MO_13 hc hw d_MO_copy_86 ?_
                  refine lv_iload_n hx hb d_MO_copy_89 rfl (lv_at hl 1 rfl) ?_
                  refine r_iald hc hw (h := 60) (n := 4) (i := zj0) (fun _ => rfl) (by omega) (by omega) (by decide) d_MO_copy_90 (v := .int (nI (sz zj0))) (congrArg Value.int ((u2_h (by decide)).trans ((hSM zj0 (by omega)).2.1))) ?_
                  refine u_icmp_gt (tgt := 109) (X := (zp1).toInt) (Y := ((sz zj0 : Nat) : Int)) hc (rfl) (nI_tI (by omega)) d_MO_copy_91 (by decide) (fun c_28 => ?_) (fun c_28 => ?_)
                  · refine lv_iconst (v := nI 0) hx hb d_MO_copy_109 (by decide) ?_
                    refine lv_istore (lv' := [(6, .int (nI 0)), (0, .ref (wad g 58)), (1, .int (nI zj0)), (2, .int zp1), (3, .int (nI zj2)), (4, .int zp3), (5, .int zp4)]) hx hb d_MO_copy_110 hl (by decide) rfl (fun ls hl => ?_)
                    refine lv_iload hx hb d_MO_copy_112 (lv_at hl 0 rfl) ?_
                    refine q_if_eq (tgt := 144) hc (by omega) d_MO_copy_114 (by decide) (fun c_29 => ?_) (fun c_29 => ?_)
                    · refine lv_aload_n hx hb d_MO_copy_144 rfl (lv_at hl 1 rfl) ?_
                      refine lv_iconst (v := nI 3) hx hb d_MO_copy_145 (by decide) ?_
                      refine kWV hc hw lk_MO_94 (h := 58) (As := [.int (nI 3)]) (rest := []) (c_MO_fails l D g _ 3) (rc_MO hw) ⟨Nat.le_of_ble_eq_true rfl, Nat.le_of_ble_eq_true rfl⟩ ⟨Nat.le_refl _, Nat.le_refl _⟩ rfl hl rfl (Nat.le_of_ble_eq_true rfl) d_MO_copy_146 (fun v_30 g_31 F_32 H locs zhp_33 hw => ?_)
                      obtain ⟨rfl, rfl, rfl⟩ := zhp_33
                      exact W_i hc hw hr hlocks (by refine ⟨congrArg (fun z => some (Value.int z)) ?_, rfl, ?_, (by repeat (first | exact FrO.rf _ _ _ | refine FrO.up ?_ (by omega) (by omega)))⟩; (unfold s_copy; (try simp only [inN, rng, zj0_t, zj0_e, zj2_t, zj2_e]); (repeat' split) <;> first | (exfalso; omega) | contradiction | rfl); (unfold s_copy; (try simp only [inN, rng, zj0_t, zj0_e, zj2_t, zj2_e]); (repeat' split) <;> first | (exfalso; omega) | contradiction | exact MI_ft hM0 _)) d_MO_copy_149
                    · exact absurd c_29 (by first | omega | decide)
                  · obtain ⟨zj1, rfl, zj1_1, zj1_2⟩ := rng_nat (x := zp1) (a := 0) (b := (sz zj0 : Int)) ⟨by omega, by omega⟩ (by decide)
                    have zj1_e := nI_tI (j := zj1) (by omega)
                    have zj1_t := tn_nI (j := zj1) (by omega)
                    refine lv_iload hx hb d_MO_copy_94 (lv_at hl 4 rfl) ?_
                    refine lv_aload_n hx hb d_MO_copy_96 rfl (lv_at hl 0 rfl) ?_
                    refine gf_MO_13 hc hw d_MO_copy_97 ?_
                    refine lv_iload_n hx hb d_MO_copy_100 rfl (lv_at hl 3 rfl) ?_
                    refine r_iald hc hw (h := 60) (n := 4) (i := zj2) (fun _ => rfl) (by omega) (by omega) (by decide) d_MO_copy_101 (v := .int (nI (sz zj2))) (congrArg Value.int ((u2_h (by decide)).trans ((hSM zj2 (by omega)).2.1))) ?_
                    refine u_icmp_gt (tgt := 109) (X := (zp3).toInt) (Y := ((sz zj2 : Nat) : Int)) hc (rfl) (nI_tI (by omega)) d_MO_copy_102 (by decide) (fun c_34 => ?_) (fun c_34 => ?_)
                    · refine lv_iconst (v := nI 0) hx hb d_MO_copy_109 (by decide) ?_
                      refine lv_istore (lv' := [(6, .int (nI 0)), (0, .ref (wad g 58)), (1, .int (nI zj0)), (2, .int (nI zj1)), (3, .int (nI zj2)), (4, .int zp3), (5, .int zp4)]) hx hb d_MO_copy_110 hl (by decide) rfl (fun ls hl => ?_)
                      refine lv_iload hx hb d_MO_copy_112 (lv_at hl 0 rfl) ?_
                      refine q_if_eq (tgt := 144) hc (by omega) d_MO_copy_114 (by decide) (fun c_35 => ?_) (fun c_35 => ?_)
                      · refine lv_aload_n hx hb d_MO_copy_144 rfl (lv_at hl 1 rfl) ?_
                        refine lv_iconst (v := nI 3) hx hb d_MO_copy_145 (by decide) ?_
                        refine kWV hc hw lk_MO_94 (h := 58) (As := [.int (nI 3)]) (rest := []) (c_MO_fails l D g _ 3) (rc_MO hw) ⟨Nat.le_of_ble_eq_true rfl, Nat.le_of_ble_eq_true rfl⟩ ⟨Nat.le_refl _, Nat.le_refl _⟩ rfl hl rfl (Nat.le_of_ble_eq_true rfl) d_MO_copy_146 (fun v_36 g_37 F_38 H locs zhp_39 hw => ?_)
                        obtain ⟨rfl, rfl, rfl⟩ := zhp_39
                        exact W_i hc hw hr hlocks (by refine ⟨congrArg (fun z => some (Value.int z)) ?_, rfl, ?_, (by repeat (first | exact FrO.rf _ _ _ | refine FrO.up ?_ (by omega) (by omega)))⟩; (unfold s_copy; (try simp only [inN, rng, zj0_t, zj0_e, zj2_t, zj2_e, zj1_t, zj1_e]); (repeat' split) <;> first | (exfalso; omega) | contradiction | rfl); (unfold s_copy; (try simp only [inN, rng, zj0_t, zj0_e, zj2_t, zj2_e, zj1_t, zj1_e]); (repeat' split) <;> first | (exfalso; omega) | contradiction | exact MI_ft hM0 _)) d_MO_copy_149
                      · exact absurd c_35 (by first | omega | decide)
                    · obtain ⟨zj3, rfl, zj3_1, zj3_2⟩ := rng_nat (x := zp3) (a := 0) (b := (sz zj2 : Int)) ⟨by omega, by omega⟩ (by decide)
                      have zj3_e := nI_tI (j := zj3) (by omega)
                      have zj3_t := tn_nI (j := zj3) (by omega)
                      refine lv_iconst (v := nI 1) hx hb d_MO_copy_105 (by decide) ?_
                      refine lv_goto (tgt := 110) hx hb d_MO_copy_106 (by decide) ?_
                      refine lv_istore (lv' := [(6, .int (nI 1)), (0, .ref (wad g 58)), (1, .int (nI zj0)), (2, .int (nI zj1)), (3, .int (nI zj2)), (4, .int (nI zj3)), (5, .int zp4)]) hx hb d_MO_copy_110 hl (by decide) rfl (fun ls hl => ?_)
                      refine lv_iload hx hb d_MO_copy_112 (lv_at hl 0 rfl) ?_
                      refine q_if_eq (tgt := 144) hc (by omega) d_MO_copy_114 (by decide) (fun c_40 => ?_) (fun c_40 => ?_)
                      · exact absurd c_40 (by first | omega | decide)
                      · refine lv_iload hx hb d_MO_copy_117 (lv_at hl 6 rfl) ?_
                        refine lv_aload_n hx hb d_MO_copy_119 rfl (lv_at hl 1 rfl) ?_
                        refine gf_MO_13 hc hw d_MO_copy_120 ?_
                        refine lv_iload_n hx hb d_MO_copy_123 rfl (lv_at hl 2 rfl) ?_
                        refine r_iald hc hw (h := 60) (n := 4) (i := zj0) (fun _ => rfl) (by omega) (by omega) (by decide) d_MO_copy_124 (v := .int (nI (sz zj0))) (congrArg Value.int ((u2_h (by decide)).trans ((hSM zj0 (by omega)).2.1))) ?_
                        refine lv_iload_n hx hb d_MO_copy_125 rfl (lv_at hl 3 rfl) ?_
                        refine q_isub hc (by omega) d_MO_copy_126 ?_
                        refine u_icmp_gt (tgt := 144) (X := (zp4).toInt) (Y := (((sz zj0) - zj1 : Nat) : Int)) hc (rfl) (nI_tI (by omega)) d_MO_copy_127 (by decide) (fun c_41 => ?_) (fun c_41 => ?_)
                        · refine lv_aload_n hx hb d_MO_copy_144 rfl (lv_at hl 1 rfl) ?_
                          refine lv_iconst (v := nI 3) hx hb d_MO_copy_145 (by decide) ?_
                          refine kWV hc hw lk_MO_94 (h := 58) (As := [.int (nI 3)]) (rest := []) (c_MO_fails l D g _ 3) (rc_MO hw) ⟨Nat.le_of_ble_eq_true rfl, Nat.le_of_ble_eq_true rfl⟩ ⟨Nat.le_refl _, Nat.le_refl _⟩ rfl hl rfl (Nat.le_of_ble_eq_true rfl) d_MO_copy_146 (fun v_42 g_43 F_44 H locs zhp_45 hw => ?_)
                          obtain ⟨rfl, rfl, rfl⟩ := zhp_45
                          exact W_i hc hw hr hlocks (by refine ⟨congrArg (fun z => some (Value.int z)) ?_, rfl, ?_, (by repeat (first | exact FrO.rf _ _ _ | refine FrO.up ?_ (by omega) (by omega)))⟩; (unfold s_copy; (try simp only [inN, rng, zj0_t, zj0_e, zj2_t, zj2_e, zj1_t, zj1_e, zj3_t, zj3_e]); (repeat' split) <;> first | (exfalso; omega) | contradiction | rfl); (unfold s_copy; (try simp only [inN, rng, zj0_t, zj0_e, zj2_t, zj2_e, zj1_t, zj1_e, zj3_t, zj3_e]); (repeat' split) <;> first | (exfalso; omega) | contradiction | exact MI_ft hM0 _)) d_MO_copy_149
                        · obtain ⟨zj4, rfl, zj4_1, zj4_2⟩ := rng_nat (x := zp4) (a := 0) (b := ((sz zj0 : Int) - (zj1 : Int))) ⟨by omega, by omega⟩ (by decide)
                          have zj4_e := nI_tI (j := zj4) (by omega)
                          have zj4_t := tn_nI (j := zj4) (by omega)
                          refine lv_iload hx hb d_MO_copy_130 (lv_at hl 6 rfl) ?_
                          refine lv_aload_n hx hb d_MO_copy_132 rfl (lv_at hl 1 rfl) ?_
                          refine gf_MO_13 hc hw d_MO_copy_133 ?_
                          refine lv_iload_n hx hb d_MO_copy_136 rfl (lv_at hl 4 rfl) ?_
                          refine r_iald hc hw (h := 60) (n := 4) (i := zj2) (fun _ => rfl) (by omega) (by omega) (by decide) d_MO_copy_137 (v := .int (nI (sz zj2))) (congrArg Value.int ((u2_h (by decide)).trans ((hSM zj2 (by omega)).2.1))) ?_
                          refine lv_iload hx hb d_MO_copy_138 (lv_at hl 5 rfl) ?_
                          refine q_isub hc (by omega) d_MO_copy_140 ?_
                          refine q_icmp_le (tgt := 150) hc (by omega) (by omega) d_MO_copy_141 (by decide) (fun c_46 => ?_) (fun c_46 => ?_)
                          · refine lv_iload_n hx hb d_MO_copy_150 rfl (lv_at hl 3 rfl) ?_
                            refine lv_iload hx hb d_MO_copy_151 (lv_at hl 5 rfl) ?_
                            refine q_icmp_ge (tgt := 160) hc (by omega) (by omega) d_MO_copy_153 (by decide) (fun c_47 => ?_) (fun c_47 => ?_)
                            · refine lv_iconst (v := nI 0) hx hb d_MO_copy_160 (by decide) ?_
                              refine lv_istore (lv' := [(7, .int (nI 0)), (6, .int (nI 1)), (0, .ref (wad g 58)), (1, .int (nI zj0)), (2, .int (nI zj1)), (3, .int (nI zj2)), (4, .int (nI zj3)), (5, .int (nI zj4))]) hx hb d_MO_copy_161 hl (by decide) rfl (fun ls hl => ?_)
                              refine lv_iconst (v := nI 0) hx hb d_MO_copy_163 (by decide) ?_
                              refine lv_istore (lv' := [(8, .int (nI 0)), (7, .int (nI 0)), (6, .int (nI 1)), (0, .ref (wad g 58)), (1, .int (nI zj0)), (2, .int (nI zj1)), (3, .int (nI zj2)), (4, .int (nI zj3)), (5, .int (nI zj4))]) hx hb d_MO_copy_164 hl (by decide) rfl (fun ls hl => ?_)
                              have loop_166 : ∀ (n_166 : Nat) (q : Nat)  (H : Heap) (locs : List Loc) (ls : Array Slot), (zj4 - q) < n_166 → (q ≤ zj4) → Wd D g (cpF (u2 F 58 0 (nI 0)) zj0 zj2 zj1 zj3 0 q) A s.heap H locs s → lv_has ls 10 [(0, .ref (wad g 58)), (1, .int (nI zj0)), (2, .int (nI zj1)), (3, .int (nI zj2)), (4, .int (nI zj3)), (5, .int (nI zj4)), (6, .int (nI 1)), (7, .int (nI 0)), (8, .int (nI q))] → W p l e (rmc 5 0 0) s m args below meth c H locs 0 0 (MQ below (Qw (fun v g2 u => v = some (.int (s_copy (ln, sz, ce) (nI zj0) (nI zj1) (nI zj2) (nI zj3) (nI zj4)).1) ∧ g = g2 ∧ MI g u (pc, lf) lw (cn, fr, to, hv, dy, an, af) (s_copy (ln, sz, ce) (nI zj0) (nI zj1) (nI zj2) (nI zj3) (nI zj4)).2.1 tr (s_copy (ln, sz, ce) (nI zj0) (nI zj1) (nI zj2) (nI zj3) (nI zj4)).2.2 ∧ FrO 58 78 F u) (Bw D A) A) args s 0 0 A) (F0 m 166 ls []) := by
                                intro n_166
                                induction n_166 with
                                | zero => intro q  H locs ls hm; exact absurd hm (Nat.not_lt_zero _)
                                | succ n_166 ih_166 =>
                                  intro q  H locs ls hm_166 hq hw hl
                                  refine lv_iload hx hb d_MO_copy_166 (lv_at hl 8 rfl) ?_
                                  refine lv_iload hx hb d_MO_copy_168 (lv_at hl 5 rfl) ?_
                                  refine q_icmp_ge (tgt := 227) hc (by omega) (by omega) d_MO_copy_170 (by decide) (fun c_48 => ?_) (fun c_48 => ?_)
                                  · rw [show q = zj4 by omega] at hw
                                    refine lv_iload hx hb d_MO_copy_227 (lv_at hl 5 rfl) ?_
                                    exact W_i hc hw hr hlocks (by refine ⟨congrArg (fun z => some (Value.int z)) ?_, rfl, ?_, ((FrO.up (FrO.rf 58 78 F) (by decide) (by decide)).tr (fun h hh => funext fun z => cpF_h (by omega)))⟩; (unfold s_copy; (try simp only [inN, rng, zj0_t, zj0_e, zj2_t, zj2_e, zj1_t, zj1_e, zj3_t, zj3_e, zj4_t, zj4_e]); (repeat' split) <;> first | (exfalso; omega) | contradiction | rfl); (unfold s_copy; (try simp only [inN, rng, zj0_t, zj0_e, zj2_t, zj2_e, zj1_t, zj1_e, zj3_t, zj3_e, zj4_t, zj4_e]); (repeat' split) <;> first | (exfalso; omega) | contradiction | exact MI_S (S2 := (_, _, _)) hM0 (SM_cp hSM0 (by omega) (by omega) (by omega) (by omega)) (fun h hh => funext fun z => cpF_h (by omega)))) d_MO_copy_229
                                  · refine lv_iload hx hb d_MO_copy_173 (lv_at hl 7 rfl) ?_
                                    refine q_if_eq (tgt := 188) hc (by omega) d_MO_copy_175 (by decide) (fun c_49 => ?_) (fun c_49 => ?_)
                                    · refine lv_iload hx hb d_MO_copy_188 (lv_at hl 8 rfl) ?_
                                      refine lv_istore (lv' := [(9, .int (nI q)), (0, .ref (wad g 58)), (1, .int (nI zj0)), (2, .int (nI zj1)), (3, .int (nI zj2)), (4, .int (nI zj3)), (5, .int (nI zj4)), (6, .int (nI 1)), (7, .int (nI 0)), (8, .int (nI q))]) hx hb d_MO_copy_190 hl (by decide) rfl (fun ls hl => ?_)
                                      refine lv_aload_n hx hb d_MO_copy_192 rfl (lv_at hl 1 rfl) ?_
                                      refine gf_MO_16 hc hw d_MO_copy_193 ?_
                                      refine lv_bipush (v := nI 40) hx hb d_MO_copy_196 (by decide) ?_
                                      refine lv_iload_n hx hb d_MO_copy_198 rfl (lv_at hl 4 rfl) ?_
                                      refine q_imul hc d_MO_copy_199 ?_
                                      refine lv_iload hx hb d_MO_copy_200 (lv_at hl 5 rfl) ?_
                                      refine q_iadd hc d_MO_copy_202 ?_
                                      refine lv_iload hx hb d_MO_copy_203 (lv_at hl 0 rfl) ?_
                                      refine q_iadd hc d_MO_copy_205 ?_
                                      refine lv_aload_n hx hb d_MO_copy_206 rfl (lv_at hl 1 rfl) ?_
                                      refine gf_MO_16 hc hw d_MO_copy_207 ?_
                                      refine lv_bipush (v := nI 40) hx hb d_MO_copy_210 (by decide) ?_
                                      refine lv_iload_n hx hb d_MO_copy_212 rfl (lv_at hl 2 rfl) ?_
                                      refine q_imul hc d_MO_copy_213 ?_
                                      refine lv_iload_n hx hb d_MO_copy_214 rfl (lv_at hl 3 rfl) ?_
                                      refine q_iadd hc d_MO_copy_215 ?_
                                      refine lv_iload hx hb d_MO_copy_216 (lv_at hl 0 rfl) ?_
                                      refine q_iadd hc d_MO_copy_218 ?_
                                      refine r_iald hc hw (h := 61) (n := 160) (i := ((40 * zj0) + zj1) + q) (fun _ => rfl) (by omega) (by omega) (by decide) d_MO_copy_219 (v := .int ((u2 F 58 0 (nI 0)) 61 (40 * zj0 + zj1 + q))) (congrArg Value.int (cpF_at (by omega))) ?_
                                      refine r_iast hc hw (h := 61) (n := 160) (i := ((40 * zj2) + zj3) + q) (fun _ => rfl) (by omega) (by omega) (by decide) d_MO_copy_220 (fun H locs hw => ?_)
                                      have hw9 := hw
                                      rw [cpF_up] at hw9
                                      refine lv_iinc (v := nI (q + 1)) (lv' := [(8, .int (nI (q + 1))), (9, .int (nI q)), (0, .ref (wad g 58)), (1, .int (nI zj0)), (2, .int (nI zj1)), (3, .int (nI zj2)), (4, .int (nI zj3)), (5, .int (nI zj4)), (6, .int (nI 1)), (7, .int (nI 0))]) hx hb d_MO_copy_221 hl (k := 9) rfl (nI_inc1 _) (by decide) rfl (fun ls hl => ?_)
                                      refine lv_goto (tgt := 166) hx hb d_MO_copy_224 (by decide) ?_
                                      exact ih_166 (q + 1) _ _ _ (by omega) (by omega) hw9 (lv_sub hl [2, 3, 4, 5, 6, 7, 8, 9, 0] rfl)
                                    · exact absurd c_49 (by first | omega | decide)
                              exact loop_166 _ 0 _ _ _ (Nat.lt_succ_self _) (by omega) (by rw [cpF_0]; exact hw) (lv_sub hl [3, 4, 5, 6, 7, 8, 2, 1, 0] rfl)
                            · refine lv_iconst (v := nI 1) hx hb d_MO_copy_156 (by decide) ?_
                              refine lv_goto (tgt := 161) hx hb d_MO_copy_157 (by decide) ?_
                              refine lv_istore (lv' := [(7, .int (nI 1)), (6, .int (nI 1)), (0, .ref (wad g 58)), (1, .int (nI zj0)), (2, .int (nI zj1)), (3, .int (nI zj2)), (4, .int (nI zj3)), (5, .int (nI zj4))]) hx hb d_MO_copy_161 hl (by decide) rfl (fun ls hl => ?_)
                              refine lv_iconst (v := nI 0) hx hb d_MO_copy_163 (by decide) ?_
                              refine lv_istore (lv' := [(8, .int (nI 0)), (7, .int (nI 1)), (6, .int (nI 1)), (0, .ref (wad g 58)), (1, .int (nI zj0)), (2, .int (nI zj1)), (3, .int (nI zj2)), (4, .int (nI zj3)), (5, .int (nI zj4))]) hx hb d_MO_copy_164 hl (by decide) rfl (fun ls hl => ?_)
                              have loop_166 : ∀ (n_166 : Nat) (q : Nat)  (H : Heap) (locs : List Loc) (ls : Array Slot), (zj4 - q) < n_166 → (q ≤ zj4) → Wd D g (cpF (u2 F 58 0 (nI 0)) zj0 zj2 zj1 zj3 (zj4 - q) zj4) A s.heap H locs s → lv_has ls 10 [(0, .ref (wad g 58)), (1, .int (nI zj0)), (2, .int (nI zj1)), (3, .int (nI zj2)), (4, .int (nI zj3)), (5, .int (nI zj4)), (6, .int (nI 1)), (7, .int (nI 1)), (8, .int (nI q))] → W p l e (rmc 5 0 0) s m args below meth c H locs 0 0 (MQ below (Qw (fun v g2 u => v = some (.int (s_copy (ln, sz, ce) (nI zj0) (nI zj1) (nI zj2) (nI zj3) (nI zj4)).1) ∧ g = g2 ∧ MI g u (pc, lf) lw (cn, fr, to, hv, dy, an, af) (s_copy (ln, sz, ce) (nI zj0) (nI zj1) (nI zj2) (nI zj3) (nI zj4)).2.1 tr (s_copy (ln, sz, ce) (nI zj0) (nI zj1) (nI zj2) (nI zj3) (nI zj4)).2.2 ∧ FrO 58 78 F u) (Bw D A) A) args s 0 0 A) (F0 m 166 ls []) := by
                                intro n_166
                                induction n_166 with
                                | zero => intro q  H locs ls hm; exact absurd hm (Nat.not_lt_zero _)
                                | succ n_166 ih_166 =>
                                  intro q  H locs ls hm_166 hq hw hl
                                  refine lv_iload hx hb d_MO_copy_166 (lv_at hl 8 rfl) ?_
                                  refine lv_iload hx hb d_MO_copy_168 (lv_at hl 5 rfl) ?_
                                  refine q_icmp_ge (tgt := 227) hc (by omega) (by omega) d_MO_copy_170 (by decide) (fun c_50 => ?_) (fun c_50 => ?_)
                                  · rw [show zj4 - q = 0 by omega] at hw
                                    refine lv_iload hx hb d_MO_copy_227 (lv_at hl 5 rfl) ?_
                                    exact W_i hc hw hr hlocks (by refine ⟨congrArg (fun z => some (Value.int z)) ?_, rfl, ?_, ((FrO.up (FrO.rf 58 78 F) (by decide) (by decide)).tr (fun h hh => funext fun z => cpF_h (by omega)))⟩; (unfold s_copy; (try simp only [inN, rng, zj0_t, zj0_e, zj2_t, zj2_e, zj1_t, zj1_e, zj3_t, zj3_e, zj4_t, zj4_e]); (repeat' split) <;> first | (exfalso; omega) | contradiction | rfl); (unfold s_copy; (try simp only [inN, rng, zj0_t, zj0_e, zj2_t, zj2_e, zj1_t, zj1_e, zj3_t, zj3_e, zj4_t, zj4_e]); (repeat' split) <;> first | (exfalso; omega) | contradiction | exact MI_S (S2 := (_, _, _)) hM0 (SM_cp hSM0 (by omega) (by omega) (by omega) (by omega)) (fun h hh => funext fun z => cpF_h (by omega)))) d_MO_copy_229
                                  · refine lv_iload hx hb d_MO_copy_173 (lv_at hl 7 rfl) ?_
                                    refine q_if_eq (tgt := 188) hc (by omega) d_MO_copy_175 (by decide) (fun c_51 => ?_) (fun c_51 => ?_)
                                    · exact absurd c_51 (by first | omega | decide)
                                    · refine lv_iload hx hb d_MO_copy_178 (lv_at hl 5 rfl) ?_
                                      refine lv_iconst (v := nI 1) hx hb d_MO_copy_180 (by decide) ?_
                                      refine q_isub hc (by omega) d_MO_copy_181 ?_
                                      refine lv_iload hx hb d_MO_copy_182 (lv_at hl 8 rfl) ?_
                                      refine q_isub hc (by omega) d_MO_copy_184 ?_
                                      refine lv_goto (tgt := 190) hx hb d_MO_copy_185 (by decide) ?_
                                      refine lv_istore (lv' := [(9, .int (nI ((zj4 - 1) - q))), (0, .ref (wad g 58)), (1, .int (nI zj0)), (2, .int (nI zj1)), (3, .int (nI zj2)), (4, .int (nI zj3)), (5, .int (nI zj4)), (6, .int (nI 1)), (7, .int (nI 1)), (8, .int (nI q))]) hx hb d_MO_copy_190 hl (by decide) rfl (fun ls hl => ?_)
                                      refine lv_aload_n hx hb d_MO_copy_192 rfl (lv_at hl 1 rfl) ?_
                                      refine gf_MO_16 hc hw d_MO_copy_193 ?_
                                      refine lv_bipush (v := nI 40) hx hb d_MO_copy_196 (by decide) ?_
                                      refine lv_iload_n hx hb d_MO_copy_198 rfl (lv_at hl 4 rfl) ?_
                                      refine q_imul hc d_MO_copy_199 ?_
                                      refine lv_iload hx hb d_MO_copy_200 (lv_at hl 5 rfl) ?_
                                      refine q_iadd hc d_MO_copy_202 ?_
                                      refine lv_iload hx hb d_MO_copy_203 (lv_at hl 0 rfl) ?_
                                      refine q_iadd hc d_MO_copy_205 ?_
                                      refine lv_aload_n hx hb d_MO_copy_206 rfl (lv_at hl 1 rfl) ?_
                                      refine gf_MO_16 hc hw d_MO_copy_207 ?_
                                      refine lv_bipush (v := nI 40) hx hb d_MO_copy_210 (by decide) ?_
                                      refine lv_iload_n hx hb d_MO_copy_212 rfl (lv_at hl 2 rfl) ?_
                                      refine q_imul hc d_MO_copy_213 ?_
                                      refine lv_iload_n hx hb d_MO_copy_214 rfl (lv_at hl 3 rfl) ?_
                                      refine q_iadd hc d_MO_copy_215 ?_
                                      refine lv_iload hx hb d_MO_copy_216 (lv_at hl 0 rfl) ?_
                                      refine q_iadd hc d_MO_copy_218 ?_
                                      refine r_iald hc hw (h := 61) (n := 160) (i := ((40 * zj0) + zj1) + ((zj4 - 1) - q)) (fun _ => rfl) (by omega) (by omega) (by decide) d_MO_copy_219 (v := .int ((u2 F 58 0 (nI 0)) 61 (40 * zj0 + zj1 + (zj4 - 1 - q)))) (congrArg Value.int (cpF_at (by omega))) ?_
                                      refine r_iast hc hw (h := 61) (n := 160) (i := ((40 * zj2) + zj3) + ((zj4 - 1) - q)) (fun _ => rfl) (by omega) (by omega) (by decide) d_MO_copy_220 (fun H locs hw => ?_)
                                      have hw9 := hw
                                      rw [show zj4 - q = (zj4 - 1 - q) + 1 by omega, cpF_dn (by omega)] at hw9
                                      rw [show zj4 - 1 - q = zj4 - (q + 1) by omega] at hw9
                                      refine lv_iinc (v := nI (q + 1)) (lv' := [(8, .int (nI (q + 1))), (9, .int (nI ((zj4 - 1) - q))), (0, .ref (wad g 58)), (1, .int (nI zj0)), (2, .int (nI zj1)), (3, .int (nI zj2)), (4, .int (nI zj3)), (5, .int (nI zj4)), (6, .int (nI 1)), (7, .int (nI 1))]) hx hb d_MO_copy_221 hl (k := 9) rfl (nI_inc1 _) (by decide) rfl (fun ls hl => ?_)
                                      refine lv_goto (tgt := 166) hx hb d_MO_copy_224 (by decide) ?_
                                      exact ih_166 (q + 1) _ _ _ (by omega) (by omega) hw9 (lv_sub hl [2, 3, 4, 5, 6, 7, 8, 9, 0] rfl)
                              exact loop_166 _ 0 _ _ _ (Nat.lt_succ_self _) (by omega) (by rw [show zj4 - 0 = zj4 from rfl, cpF_0]; exact hw) (lv_sub hl [3, 4, 5, 6, 7, 8, 2, 1, 0] rfl)
                          · refine lv_aload_n hx hb d_MO_copy_144 rfl (lv_at hl 1 rfl) ?_
                            refine lv_iconst (v := nI 3) hx hb d_MO_copy_145 (by decide) ?_
                            refine kWV hc hw lk_MO_94 (h := 58) (As := [.int (nI 3)]) (rest := []) (c_MO_fails l D g _ 3) (rc_MO hw) ⟨Nat.le_of_ble_eq_true rfl, Nat.le_of_ble_eq_true rfl⟩ ⟨Nat.le_refl _, Nat.le_refl _⟩ rfl hl rfl (Nat.le_of_ble_eq_true rfl) d_MO_copy_146 (fun v_52 g_53 F_54 H locs zhp_55 hw => ?_)
                            obtain ⟨rfl, rfl, rfl⟩ := zhp_55
                            exact W_i hc hw hr hlocks (by refine ⟨congrArg (fun z => some (Value.int z)) ?_, rfl, ?_, (by repeat (first | exact FrO.rf _ _ _ | refine FrO.up ?_ (by omega) (by omega)))⟩; (unfold s_copy; (try simp only [inN, rng, zj0_t, zj0_e, zj2_t, zj2_e, zj1_t, zj1_e, zj3_t, zj3_e, zj4_t, zj4_e]); (repeat' split) <;> first | (exfalso; omega) | contradiction | rfl); (unfold s_copy; (try simp only [inN, rng, zj0_t, zj0_e, zj2_t, zj2_e, zj1_t, zj1_e, zj3_t, zj3_e, zj4_t, zj4_e]); (repeat' split) <;> first | (exfalso; omega) | contradiction | exact MI_ft hM0 _)) d_MO_copy_149
          · have hlq : ¬ ln zj0 = ln zj2 := fun q => c_9 (by rw [q])
            refine lv_aload_n hx hb d_MO_copy_64 rfl (lv_at hl 0 rfl) ?_
            refine lv_iconst (v := nI 2) hx hb d_MO_copy_65 (by decide) ?_
            refine kWV hc hw lk_MO_94 (h := 58) (As := [.int (nI 2)]) (rest := []) (c_MO_fails l D g _ 2) (rc_MO hw) ⟨Nat.le_of_ble_eq_true rfl, Nat.le_of_ble_eq_true rfl⟩ ⟨Nat.le_refl _, Nat.le_refl _⟩ rfl hl rfl (Nat.le_of_ble_eq_true rfl) d_MO_copy_66 (fun v_56 g_57 F_58 H locs zhp_59 hw => ?_)
            obtain ⟨rfl, rfl, rfl⟩ := zhp_59
            exact W_i hc hw hr hlocks (by refine ⟨congrArg (fun z => some (Value.int z)) ?_, rfl, ?_, (by repeat (first | exact FrO.rf _ _ _ | refine FrO.up ?_ (by omega) (by omega)))⟩; (unfold s_copy; (try simp only [inN, rng, zj0_t, zj0_e, zj2_t, zj2_e]); (repeat' split) <;> first | (exfalso; omega) | contradiction | rfl); (unfold s_copy; (try simp only [inN, rng, zj0_t, zj0_e, zj2_t, zj2_e]); (repeat' split) <;> first | (exfalso; omega) | contradiction | exact MI_ft hM0 _)) d_MO_copy_69
        · have hzn2 : ln zj2 = none := (oI_no (hSI zj2 (by omega)).2).mp c_8
          refine lv_aload_n hx hb d_MO_copy_43 rfl (lv_at hl 0 rfl) ?_
          refine lv_iconst (v := nI 1) hx hb d_MO_copy_44 (by decide) ?_
          refine kWV hc hw lk_MO_94 (h := 58) (As := [.int (nI 1)]) (rest := []) (c_MO_fails l D g _ 1) (rc_MO hw) ⟨Nat.le_of_ble_eq_true rfl, Nat.le_of_ble_eq_true rfl⟩ ⟨Nat.le_refl _, Nat.le_refl _⟩ rfl hl rfl (Nat.le_of_ble_eq_true rfl) d_MO_copy_45 (fun v_60 g_61 F_62 H locs zhp_63 hw => ?_)
          obtain ⟨rfl, rfl, rfl⟩ := zhp_63
          exact W_i hc hw hr hlocks (by refine ⟨congrArg (fun z => some (Value.int z)) ?_, rfl, ?_, (by repeat (first | exact FrO.rf _ _ _ | refine FrO.up ?_ (by omega) (by omega)))⟩; (unfold s_copy; (try simp only [inN, rng, zj0_t, zj0_e, zj2_t, zj2_e]); (repeat' split) <;> first | (exfalso; omega) | contradiction | rfl); (unfold s_copy; (try simp only [inN, rng, zj0_t, zj0_e, zj2_t, zj2_e]); (repeat' split) <;> first | (exfalso; omega) | contradiction | exact MI_ft hM0 _)) d_MO_copy_48
    · try unfold rng at c_2
      refine lv_iconst (v := (-1)) hx hb d_MO_copy_19 (by decide) ?_
      exact W_i hc hw hr hlocks (by refine ⟨congrArg (fun z => some (Value.int z)) ?_, rfl, ?_, (by repeat (first | exact FrO.rf _ _ _ | refine FrO.up ?_ (by omega) (by omega)))⟩; (unfold s_copy; (try simp only [inN, rng, zj0_t, zj0_e]); (repeat' split) <;> first | (exfalso; omega) | contradiction | rfl); (unfold s_copy; (try simp only [inN, rng, zj0_t, zj0_e]); (repeat' split) <;> first | (exfalso; omega) | contradiction | exact hM0)) d_MO_copy_20
