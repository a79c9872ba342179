/-! printed by wip/gen/meths4.py: the class, calls that only tell -/
set_option maxHeartbeats 4000000 in
theorem c_AP_ofPerson (l : Launch) (D : va_G) (g : wG) (F : wF) (pc : Nat) (lf : Nat → Nat) (lw : Nat) (cn : Nat) (fr to hv dy : Nat → Nat) (an af : Nat → Option Nat) (ln : Nat → Option Nat) (sz : Nat → Nat) (ce : Nat → Nat → Int32) (tr ft : Int32) (hG : GI g (pc, lf) lw (cn, fr, to, hv, dy, an, af) (ln, sz, ce)) (hC : CI g F (pc, lf) lw (cn, fr, to, hv, dy, an, af) (ln, sz, ce) tr ft) (p0 p1 : Int32) : CR l y_AP_ofPerson b_AP_ofPerson 4 (Option.some Jvm.ClassFile.FieldType.int) 3 D g F [.ref (wad g 0), .int p0, .int p1] (.int (s_ofPerson (wK g) (pc, lf) p0 p1)) := by
  refine CR.start rfl (Nat.le_of_ble_eq_true rfl) ?_
  intro p e s m args below meth c A ls hc hr hlocks hw hl
  have hl : lv_has ls 4 [(0, .ref (wad g 0)), (1, .int p0), (2, .int p1)] := hl
  have hx := hc.1
  have hb := hc.2.1
  obtain ⟨hpc6, hpcm, hm6, hpc0, hper⟩ : PI g pc lf := hG.1
  have hlw : lw ≤ 2 := hG.2.1
  have hI : LI pc cn fr to hv dy an af := hG.2.2.1
  have hcn := hI.1
  have hSI : SI ln sz := hG.2.2.2
  have hPC : PC F pc lf := hC.1
  have hL : LC g F cn fr to hv dy an af := hC.2.2.1
  have hSC : SC F ln sz ce := hC.2.2.2.1
  refine lv_aload_n hx hb d_AP_ofPerson_0 rfl (lv_at hl 0 rfl) ?_
  refine lv_iload_n hx hb d_AP_ofPerson_1 rfl (lv_at hl 1 rfl) ?_
  by_cases hq0 : inN p0 pc
  · obtain ⟨j0, rfl, j0_1⟩ := inN_nat hq0
    have j0_e := nI_tI (j := j0) (by omega)
    have j0_t := tn_nI (j := j0) (by omega)
    unfold inN at hq0
    refine kRV hc hw lk_AP_96 (As := [.int (nI j0)]) (rest := []) (c_AP_personAt_y l D g _ pc (hPC.1) hpcm hm6 (j0) (j0_1)) (rc_AP hw) ⟨Nat.le_of_ble_eq_true rfl, Nat.le_of_ble_eq_true rfl⟩ ⟨Nat.le_refl _, Nat.le_refl _⟩ rfl hl rfl (Nat.le_of_ble_eq_true rfl) d_AP_ofPerson_2 ?_
    refine lv_astore_n (lv' := [(3, .ref (wad g (79 + j0))), (0, .ref (wad g 0)), (1, .int (nI j0)), (2, .int p1)]) hx hb d_AP_ofPerson_5 rfl hl (by decide) rfl (fun ls hl => ?_)
    refine lv_aload_n hx hb d_AP_ofPerson_6 rfl (lv_at hl 0 rfl) ?_
    refine lv_ifnonnull (tgt := 12) hx hb d_AP_ofPerson_7 (by decide) ?_
    refine lv_iload_n hx hb d_AP_ofPerson_12 rfl (lv_at hl 3 rfl) ?_
    refine lv_iconst (v := nI 0) hx hb d_AP_ofPerson_13 (by decide) ?_
    refine lv_iconst (v := nI 1) hx hb d_AP_ofPerson_14 (by decide) ?_
    refine kRS hc hw lk_AP_67 (As := [.int p1, .int (nI 0), .int (nI 1)]) (rest := []) (c_AP_isWithin l D g _ (p1) (nI 0) (nI 1) 0 1 (by decide) (by decide)) ⟨Nat.le_of_ble_eq_true rfl, Nat.le_of_ble_eq_true rfl⟩ ⟨Nat.le_refl _, Nat.le_refl _⟩ rfl hl rfl (Nat.le_of_ble_eq_true rfl) d_AP_ofPerson_15 ?_
    refine b_if_ne (tgt := 24) hc d_AP_ofPerson_18 (by decide) (fun c_1 => ?_) (fun c_1 => ?_)
    · obtain ⟨j1, rfl, j1_1, j1_2⟩ := rng_nat c_1 (by decide)
      have j1_e := nI_tI (j := j1) (by omega)
      have j1_t := tn_nI (j := j1) (by omega)
      try unfold rng at c_1
      refine lv_iload_n hx hb d_AP_ofPerson_24 rfl (lv_at hl 3 rfl) ?_
      refine q_if_ne (tgt := 35) hc (by omega) d_AP_ofPerson_25 (by decide) (fun c_2 => ?_) (fun c_2 => ?_)
      · refine lv_aload_n hx hb d_AP_ofPerson_35 rfl (lv_at hl 0 rfl) ?_
        refine gf_AP_104 hc hw (k := j0) (by omega) ((hper j0 (j0_1)).1) d_AP_ofPerson_36 (v := .int (nI (lf j0))) (congrArg Value.int ((hPC.2 j0 (by omega)).2)) ?_
        exact R_i hc hr hlocks (by refine congrArg Value.int ?_; unfold s_ofPerson; simp only [inN, rng, j0_t, j0_e, j1_t, j1_e]; (repeat' split) <;> first | (exfalso; omega) | rfl) d_AP_ofPerson_39
      · refine lv_aload_n hx hb d_AP_ofPerson_28 rfl (lv_at hl 0 rfl) ?_
        refine vk_AP_100 hc hw (j := j0) (by omega) ((hper j0 (j0_1)).1) ⟨Nat.le_of_ble_eq_true rfl, Nat.le_of_ble_eq_true rfl⟩ ⟨Nat.le_refl _, Nat.le_refl _⟩ hl (Nat.le_of_ble_eq_true rfl) d_AP_ofPerson_29 ?_
        refine lv_goto (tgt := 39) hx hb d_AP_ofPerson_32 (by decide) ?_
        exact R_i hc hr hlocks (by refine congrArg Value.int ?_; unfold s_ofPerson; simp only [inN, rng, j0_t, j0_e, j1_t, j1_e]; (repeat' split) <;> first | (exfalso; omega) | rfl) d_AP_ofPerson_39
    · try unfold rng at c_1
      refine lv_bipush (v := (-2)) hx hb d_AP_ofPerson_21 (by decide) ?_
      exact R_i hc hr hlocks (by refine congrArg Value.int ?_; unfold s_ofPerson; simp only [inN, rng, j0_t, j0_e]; (repeat' split) <;> first | (exfalso; omega) | rfl) d_AP_ofPerson_23
  · refine kRV hc hw lk_AP_96 (As := [.int p0]) (rest := []) (c_AP_personAt_n l D g _ pc (hPC.1) hpc6 p0 hq0) (rc_AP hw) ⟨Nat.le_of_ble_eq_true rfl, Nat.le_of_ble_eq_true rfl⟩ ⟨Nat.le_refl _, Nat.le_refl _⟩ rfl hl rfl (Nat.le_of_ble_eq_true rfl) d_AP_ofPerson_2 ?_
    unfold inN at hq0
    refine lv_astore_nN (lv' := [(3, .null), (0, .ref (wad g 0)), (1, .int p0), (2, .int p1)]) hx hb d_AP_ofPerson_5 rfl hl (by decide) rfl (fun ls hl => ?_)
    refine lv_aload_nN hx hb d_AP_ofPerson_6 rfl (lv_at hl 0 rfl) ?_
    refine lv_ifnonnullN hx hb d_AP_ofPerson_7 ?_
    refine lv_iconst (v := (-1)) hx hb d_AP_ofPerson_10 (by decide) ?_
    exact R_i hc hr hlocks (by refine congrArg Value.int ?_; unfold s_ofPerson; simp only [inN, rng]; (repeat' split) <;> first | (exfalso; omega) | rfl) d_AP_ofPerson_11
set_option maxHeartbeats 4000000 in
theorem c_AP_scale (l : Launch) (D : va_G) (g : wG) (F : wF) (pc : Nat) (lf : Nat → Nat) (lw : Nat) (cn : Nat) (fr to hv dy : Nat → Nat) (an af : Nat → Option Nat) (ln : Nat → Option Nat) (sz : Nat → Nat) (ce : Nat → Nat → Int32) (tr ft : Int32) (hG : GI g (pc, lf) lw (cn, fr, to, hv, dy, an, af) (ln, sz, ce)) (hC : CI g F (pc, lf) lw (cn, fr, to, hv, dy, an, af) (ln, sz, ce) tr ft) (p0 p1 : Int32) : CR l y_AP_scale b_AP_scale 4 (Option.some Jvm.ClassFile.FieldType.int) 3 D g F [.ref (wad g 0), .int p0, .int p1] (.int (s_scale (wK g) (pc, lf) p0 p1)) := by
  refine CR.start rfl (Nat.le_of_ble_eq_true rfl) ?_
  intro p e s m args below meth c A ls hc hr hlocks hw hl
  have hl : lv_has ls 4 [(0, .ref (wad g 0)), (1, .int p0), (2, .int p1)] := hl
  have hx := hc.1
  have hb := hc.2.1
  obtain ⟨hpc6, hpcm, hm6, hpc0, hper⟩ : PI g pc lf := hG.1
  have hlw : lw ≤ 2 := hG.2.1
  have hI : LI pc cn fr to hv dy an af := hG.2.2.1
  have hcn := hI.1
  have hSI : SI ln sz := hG.2.2.2
  have hPC : PC F pc lf := hC.1
  have hL : LC g F cn fr to hv dy an af := hC.2.2.1
  have hSC : SC F ln sz ce := hC.2.2.2.1
  refine lv_aload_n hx hb d_AP_scale_0 rfl (lv_at hl 0 rfl) ?_
  refine lv_iload_n hx hb d_AP_scale_1 rfl (lv_at hl 1 rfl) ?_
  by_cases hq0 : inN p0 pc
  · obtain ⟨j0, rfl, j0_1⟩ := inN_nat hq0
    have j0_e := nI_tI (j := j0) (by omega)
    have j0_t := tn_nI (j := j0) (by omega)
    unfold inN at hq0
    refine kRV hc hw lk_AP_96 (As := [.int (nI j0)]) (rest := []) (c_AP_personAt_y l D g _ pc (hPC.1) hpcm hm6 (j0) (j0_1)) (rc_AP hw) ⟨Nat.le_of_ble_eq_true rfl, Nat.le_of_ble_eq_true rfl⟩ ⟨Nat.le_refl _, Nat.le_refl _⟩ rfl hl rfl (Nat.le_of_ble_eq_true rfl) d_AP_scale_2 ?_
    refine lv_astore_n (lv' := [(3, .ref (wad g (79 + j0))), (0, .ref (wad g 0)), (1, .int (nI j0)), (2, .int p1)]) hx hb d_AP_scale_5 rfl hl (by decide) rfl (fun ls hl => ?_)
    refine lv_aload_n hx hb d_AP_scale_6 rfl (lv_at hl 0 rfl) ?_
    refine lv_ifnonnull (tgt := 12) hx hb d_AP_scale_7 (by decide) ?_
    refine lv_iload_n hx hb d_AP_scale_12 rfl (lv_at hl 3 rfl) ?_
    refine lv_iconst (v := nI 1) hx hb d_AP_scale_13 (by decide) ?_
    refine lv_bipush (v := nI 99) hx hb d_AP_scale_14 (by decide) ?_
    refine kRS hc hw lk_AP_67 (As := [.int p1, .int (nI 1), .int (nI 99)]) (rest := []) (c_AP_isWithin l D g _ (p1) (nI 1) (nI 99) 1 99 (by decide) (by decide)) ⟨Nat.le_of_ble_eq_true rfl, Nat.le_of_ble_eq_true rfl⟩ ⟨Nat.le_refl _, Nat.le_refl _⟩ rfl hl rfl (Nat.le_of_ble_eq_true rfl) d_AP_scale_16 ?_
    refine b_if_ne (tgt := 25) hc d_AP_scale_19 (by decide) (fun c_1 => ?_) (fun c_1 => ?_)
    · obtain ⟨j1, rfl, j1_1, j1_2⟩ := rng_nat c_1 (by decide)
      have j1_e := nI_tI (j := j1) (by omega)
      have j1_t := tn_nI (j := j1) (by omega)
      try unfold rng at c_1
      refine lv_aload_n hx hb d_AP_scale_25 rfl (lv_at hl 0 rfl) ?_
      refine lv_iload_n hx hb d_AP_scale_26 rfl (lv_at hl 3 rfl) ?_
      refine vs_AP_107 hc hw (j := j0) (by omega) ((hper j0 (j0_1)).1) (w := j1) (by omega) ⟨Nat.le_of_ble_eq_true rfl, Nat.le_of_ble_eq_true rfl⟩ ⟨Nat.le_refl _, Nat.le_refl _⟩ hl (Nat.le_of_ble_eq_true rfl) d_AP_scale_27 ?_
      exact R_i hc hr hlocks (by refine congrArg Value.int ?_; unfold s_scale; simp only [inN, rng, j0_t, j0_e, j1_t, j1_e]; (repeat' split) <;> first | (exfalso; omega) | rfl) d_AP_scale_30
    · try unfold rng at c_1
      refine lv_bipush (v := (-2)) hx hb d_AP_scale_22 (by decide) ?_
      exact R_i hc hr hlocks (by refine congrArg Value.int ?_; unfold s_scale; simp only [inN, rng, j0_t, j0_e]; (repeat' split) <;> first | (exfalso; omega) | rfl) d_AP_scale_24
  · refine kRV hc hw lk_AP_96 (As := [.int p0]) (rest := []) (c_AP_personAt_n l D g _ pc (hPC.1) hpc6 p0 hq0) (rc_AP hw) ⟨Nat.le_of_ble_eq_true rfl, Nat.le_of_ble_eq_true rfl⟩ ⟨Nat.le_refl _, Nat.le_refl _⟩ rfl hl rfl (Nat.le_of_ble_eq_true rfl) d_AP_scale_2 ?_
    unfold inN at hq0
    refine lv_astore_nN (lv' := [(3, .null), (0, .ref (wad g 0)), (1, .int p0), (2, .int p1)]) hx hb d_AP_scale_5 rfl hl (by decide) rfl (fun ls hl => ?_)
    refine lv_aload_nN hx hb d_AP_scale_6 rfl (lv_at hl 0 rfl) ?_
    refine lv_ifnonnullN hx hb d_AP_scale_7 ?_
    refine lv_iconst (v := (-1)) hx hb d_AP_scale_10 (by decide) ?_
    exact R_i hc hr hlocks (by refine congrArg Value.int ?_; unfold s_scale; simp only [inN, rng]; (repeat' split) <;> first | (exfalso; omega) | rfl) d_AP_scale_11
set_option maxHeartbeats 4000000 in
theorem c_AP_ofLetter (l : Launch) (D : va_G) (g : wG) (F : wF) (pc : Nat) (lf : Nat → Nat) (lw : Nat) (cn : Nat) (fr to hv dy : Nat → Nat) (an af : Nat → Option Nat) (ln : Nat → Option Nat) (sz : Nat → Nat) (ce : Nat → Nat → Int32) (tr ft : Int32) (hG : GI g (pc, lf) lw (cn, fr, to, hv, dy, an, af) (ln, sz, ce)) (hC : CI g F (pc, lf) lw (cn, fr, to, hv, dy, an, af) (ln, sz, ce) tr ft) (p0 p1 : Int32) : CR l y_AP_ofLetter b_AP_ofLetter 3 (Option.some Jvm.ClassFile.FieldType.int) 3 D g F [.ref (wad g 0), .int p0, .int p1] (.int (s_ofLetter (wK g) (cn, fr, to, hv, dy, an, af) p0 p1)) := by
  refine CR.start rfl (Nat.le_of_ble_eq_true rfl) ?_
  intro p e s m args below meth c A ls hc hr hlocks hw hl
  have hl : lv_has ls 3 [(0, .ref (wad g 0)), (1, .int p0), (2, .int p1)] := hl
  have hx := hc.1
  have hb := hc.2.1
  obtain ⟨hpc6, hpcm, hm6, hpc0, hper⟩ : PI g pc lf := hG.1
  have hlw : lw ≤ 2 := hG.2.1
  have hI : LI pc cn fr to hv dy an af := hG.2.2.1
  have hcn := hI.1
  have hSI : SI ln sz := hG.2.2.2
  have hPC : PC F pc lf := hC.1
  have hL : LC g F cn fr to hv dy an af := hC.2.2.1
  have hSC : SC F ln sz ce := hC.2.2.2.1
  refine lv_aload_n hx hb d_AP_ofLetter_0 rfl (lv_at hl 0 rfl) ?_
  refine gf_AP_27 hc hw d_AP_ofLetter_1 ?_
  refine lv_iload_n hx hb d_AP_ofLetter_4 rfl (lv_at hl 1 rfl) ?_
  refine kRV hc hw lk_AP_125 (As := [.int p0]) (rest := []) (c_LE_has l D g _ cn hL.1 hcn (p0)) (rc_LE hw) ⟨Nat.le_of_ble_eq_true rfl, Nat.le_of_ble_eq_true rfl⟩ ⟨Nat.le_refl _, Nat.le_refl _⟩ rfl hl rfl (Nat.le_of_ble_eq_true rfl) d_AP_ofLetter_5 ?_
  refine b_if_ne (tgt := 13) hc d_AP_ofLetter_8 (by decide) (fun c_1 => ?_) (fun c_1 => ?_)
  · obtain ⟨j0, rfl, j0_1⟩ := inN_nat c_1
    have j0_e := nI_tI (j := j0) (by omega)
    have j0_t := tn_nI (j := j0) (by omega)
    try unfold inN at c_1
    refine lv_iload_n hx hb d_AP_ofLetter_13 rfl (lv_at hl 2 rfl) ?_
    by_cases c_2 : (p1).toInt = 0
    · refine lv_tableIn (tgt := 56) hx hb d_AP_ofLetter_14 (by omega) (by omega) (by rw [c_2] <;> rfl) (by decide) ?_
      refine lv_aload_n hx hb d_AP_ofLetter_56 rfl (lv_at hl 0 rfl) ?_
      refine gf_AP_27 hc hw d_AP_ofLetter_57 ?_
      refine gf_AP_137 hc hw d_AP_ofLetter_60 ?_
      refine lv_iload_n hx hb d_AP_ofLetter_63 rfl (lv_at hl 1 rfl) ?_
      refine r_iald hc hw (h := 12) (n := 24) (i := j0) (fun _ => rfl) (by omega) (by omega) (by decide) d_AP_ofLetter_64 (v := .int (nI (fr j0))) (congrArg Value.int ((hL.2 (j0) (by omega)).1)) ?_
      exact R_i hc hr hlocks (by refine congrArg Value.int ?_; unfold s_ofLetter; simp only [inN, rng, j0_t, j0_e, lsc]; (repeat' split) <;> first | (exfalso; omega) | rfl) d_AP_ofLetter_65
    by_cases c_3 : (p1).toInt = 1
    · refine lv_tableIn (tgt := 66) hx hb d_AP_ofLetter_14 (by omega) (by omega) (by rw [c_3] <;> rfl) (by decide) ?_
      refine lv_aload_n hx hb d_AP_ofLetter_66 rfl (lv_at hl 0 rfl) ?_
      refine gf_AP_27 hc hw d_AP_ofLetter_67 ?_
      refine gf_AP_134 hc hw d_AP_ofLetter_70 ?_
      refine lv_iload_n hx hb d_AP_ofLetter_73 rfl (lv_at hl 1 rfl) ?_
      refine r_iald hc hw (h := 13) (n := 24) (i := j0) (fun _ => rfl) (by omega) (by omega) (by decide) d_AP_ofLetter_74 (v := .int (nI (to j0))) (congrArg Value.int ((hL.2 (j0) (by omega)).2.1)) ?_
      exact R_i hc hr hlocks (by refine congrArg Value.int ?_; unfold s_ofLetter; simp only [inN, rng, j0_t, j0_e, lsc]; (repeat' split) <;> first | (exfalso; omega) | rfl) d_AP_ofLetter_75
    by_cases c_4 : (p1).toInt = 2
    · refine lv_tableIn (tgt := 76) hx hb d_AP_ofLetter_14 (by omega) (by omega) (by rw [c_4] <;> rfl) (by decide) ?_
      refine lv_aload_n hx hb d_AP_ofLetter_76 rfl (lv_at hl 0 rfl) ?_
      refine gf_AP_27 hc hw d_AP_ofLetter_77 ?_
      refine gf_AP_144 hc hw d_AP_ofLetter_80 ?_
      refine lv_iload_n hx hb d_AP_ofLetter_83 rfl (lv_at hl 1 rfl) ?_
      refine r_iald hc hw (h := 14) (n := 24) (i := j0) (fun _ => rfl) (by omega) (by omega) (by decide) d_AP_ofLetter_84 (v := .int (nI (hv j0))) (congrArg Value.int ((hL.2 (j0) (by omega)).2.2.1)) ?_
      exact R_i hc hr hlocks (by refine congrArg Value.int ?_; unfold s_ofLetter; simp only [inN, rng, j0_t, j0_e, lsc]; (repeat' split) <;> first | (exfalso; omega) | rfl) d_AP_ofLetter_85
    by_cases c_5 : (p1).toInt = 3
    · refine lv_tableIn (tgt := 86) hx hb d_AP_ofLetter_14 (by omega) (by omega) (by rw [c_5] <;> rfl) (by decide) ?_
      refine lv_aload_n hx hb d_AP_ofLetter_86 rfl (lv_at hl 0 rfl) ?_
      refine gf_AP_27 hc hw d_AP_ofLetter_87 ?_
      refine gf_AP_128 hc hw d_AP_ofLetter_90 ?_
      refine lv_iload_n hx hb d_AP_ofLetter_93 rfl (lv_at hl 1 rfl) ?_
      refine r_iald hc hw (h := 15) (n := 24) (i := j0) (fun _ => rfl) (by omega) (by omega) (by decide) d_AP_ofLetter_94 (v := .int (nI (dy j0))) (congrArg Value.int ((hL.2 (j0) (by omega)).2.2.2.1)) ?_
      exact R_i hc hr hlocks (by refine congrArg Value.int ?_; unfold s_ofLetter; simp only [inN, rng, j0_t, j0_e, lsc]; (repeat' split) <;> first | (exfalso; omega) | rfl) d_AP_ofLetter_95
    by_cases c_6 : (p1).toInt = 4
    · refine lv_tableIn (tgt := 96) hx hb d_AP_ofLetter_14 (by omega) (by omega) (by rw [c_6] <;> rfl) (by decide) ?_
      refine lv_aload_n hx hb d_AP_ofLetter_96 rfl (lv_at hl 0 rfl) ?_
      refine gf_AP_27 hc hw d_AP_ofLetter_97 ?_
      refine gf_AP_147 hc hw d_AP_ofLetter_100 ?_
      refine lv_iload_n hx hb d_AP_ofLetter_103 rfl (lv_at hl 1 rfl) ?_
      refine r_iald hc hw (h := 17) (n := 24) (i := j0) (fun _ => rfl) (by omega) (by omega) (by decide) d_AP_ofLetter_104 (v := .int (oI (an j0))) (congrArg Value.int ((hL.2 (j0) (by omega)).2.2.2.2.2.1)) ?_
      exact R_i hc hr hlocks (by refine congrArg Value.int ?_; unfold s_ofLetter; simp only [inN, rng, j0_t, j0_e, lsc]; (repeat' split) <;> first | (exfalso; omega) | rfl) d_AP_ofLetter_105
    by_cases c_7 : (p1).toInt = 5
    · refine lv_tableIn (tgt := 106) hx hb d_AP_ofLetter_14 (by omega) (by omega) (by rw [c_7] <;> rfl) (by decide) ?_
      refine lv_aload_n hx hb d_AP_ofLetter_106 rfl (lv_at hl 0 rfl) ?_
      refine gf_AP_27 hc hw d_AP_ofLetter_107 ?_
      refine gf_AP_150 hc hw d_AP_ofLetter_110 ?_
      refine lv_iload_n hx hb d_AP_ofLetter_113 rfl (lv_at hl 1 rfl) ?_
      refine r_iald hc hw (h := 18) (n := 24) (i := j0) (fun _ => rfl) (by omega) (by omega) (by decide) d_AP_ofLetter_114 (v := .int (oI (af j0))) (congrArg Value.int ((hL.2 (j0) (by omega)).2.2.2.2.2.2)) ?_
      exact R_i hc hr hlocks (by refine congrArg Value.int ?_; unfold s_ofLetter; simp only [inN, rng, j0_t, j0_e, lsc]; (repeat' split) <;> first | (exfalso; omega) | rfl) d_AP_ofLetter_115
    by_cases c_8 : (p1).toInt = 6
    · refine lv_tableIn (tgt := 116) hx hb d_AP_ofLetter_14 (by omega) (by omega) (by rw [c_8] <;> rfl) (by decide) ?_
      refine lv_aload_n hx hb d_AP_ofLetter_116 rfl (lv_at hl 0 rfl) ?_
      refine gf_AP_27 hc hw d_AP_ofLetter_117 ?_
      refine gf_AP_153 hc hw d_AP_ofLetter_120 ?_
      refine lv_iload_n hx hb d_AP_ofLetter_123 rfl (lv_at hl 1 rfl) ?_
      refine r_iald hc hw (h := 16) (n := 24) (i := j0) (fun _ => rfl) (by omega) (by omega) (by decide) d_AP_ofLetter_124 (v := .int (nI (lsc g fr hv j0))) (congrArg Value.int ((hL.2 (j0) (by omega)).2.2.2.2.1)) ?_
      exact R_i hc hr hlocks (by refine congrArg Value.int ?_; unfold s_ofLetter; simp only [inN, rng, j0_t, j0_e, lsc]; (repeat' split) <;> first | (exfalso; omega) | rfl) d_AP_ofLetter_125
    have hout : (p1).toInt < 0 ∨ 6 < (p1).toInt := by omega
    refine lv_tableOut (tgt := 126) hx hb d_AP_ofLetter_14 hout (by decide) ?_
    refine lv_bipush (v := (-2)) hx hb d_AP_ofLetter_126 (by decide) ?_
    exact R_i hc hr hlocks (by refine congrArg Value.int ?_; unfold s_ofLetter; simp only [inN, rng, j0_t, j0_e, lsc]; (repeat' split) <;> first | (exfalso; omega) | rfl) d_AP_ofLetter_128
  · try unfold inN at c_1
    refine lv_iconst (v := (-1)) hx hb d_AP_ofLetter_11 (by decide) ?_
    exact R_i hc hr hlocks (by refine congrArg Value.int ?_; unfold s_ofLetter; simp only [inN, rng, lsc]; (repeat' split) <;> first | (exfalso; omega) | rfl) d_AP_ofLetter_12
set_option maxHeartbeats 4000000 in
theorem c_AP_paid (l : Launch) (D : va_G) (g : wG) (F : wF) (pc : Nat) (lf : Nat → Nat) (lw : Nat) (cn : Nat) (fr to hv dy : Nat → Nat) (an af : Nat → Option Nat) (ln : Nat → Option Nat) (sz : Nat → Nat) (ce : Nat → Nat → Int32) (tr ft : Int32) (hG : GI g (pc, lf) lw (cn, fr, to, hv, dy, an, af) (ln, sz, ce)) (hC : CI g F (pc, lf) lw (cn, fr, to, hv, dy, an, af) (ln, sz, ce) tr ft) (p0 p1 : Int32) : CR l y_AP_paid b_AP_paid 3 (Option.some Jvm.ClassFile.FieldType.int) 3 D g F [.ref (wad g 0), .int p0, .int p1] (.int (s_paid (wK g) (pc, lf) lw (cn, fr, to, hv, dy, an, af) p0 p1)) := by
  refine CR.start rfl (Nat.le_of_ble_eq_true rfl) ?_
  intro p e s m args below meth c A ls hc hr hlocks hw hl
  have hl : lv_has ls 3 [(0, .ref (wad g 0)), (1, .int p0), (2, .int p1)] := hl
  have hx := hc.1
  have hb := hc.2.1
  obtain ⟨hpc6, hpcm, hm6, hpc0, hper⟩ : PI g pc lf := hG.1
  have hlw : lw ≤ 2 := hG.2.1
  have hI : LI pc cn fr to hv dy an af := hG.2.2.1
  have hcn := hI.1
  have hSI : SI ln sz := hG.2.2.2
  have hPC : PC F pc lf := hC.1
  have hL : LC g F cn fr to hv dy an af := hC.2.2.1
  have hSC : SC F ln sz ce := hC.2.2.2.1
  refine lv_aload_n hx hb d_AP_paid_0 rfl (lv_at hl 0 rfl) ?_
  refine lv_iload_n hx hb d_AP_paid_1 rfl (lv_at hl 1 rfl) ?_
  by_cases hq0 : inN p0 pc
  · obtain ⟨j0, rfl, j0_1⟩ := inN_nat hq0
    have j0_e := nI_tI (j := j0) (by omega)
    have j0_t := tn_nI (j := j0) (by omega)
    unfold inN at hq0
    refine kRV hc hw lk_AP_96 (As := [.int (nI j0)]) (rest := []) (c_AP_personAt_y l D g _ pc (hPC.1) hpcm hm6 (j0) (j0_1)) (rc_AP hw) ⟨Nat.le_of_ble_eq_true rfl, Nat.le_of_ble_eq_true rfl⟩ ⟨Nat.le_refl _, Nat.le_refl _⟩ rfl hl rfl (Nat.le_of_ble_eq_true rfl) d_AP_paid_2 ?_
    refine lv_ifnonnull (tgt := 10) hx hb d_AP_paid_5 (by decide) ?_
    refine lv_iload_n hx hb d_AP_paid_10 rfl (lv_at hl 2 rfl) ?_
    refine kRS hc hw lk_AP_113 (As := [.int p1]) (rest := []) (c_AP_isDay l D g _ (p1)) ⟨Nat.le_of_ble_eq_true rfl, Nat.le_of_ble_eq_true rfl⟩ ⟨Nat.le_refl _, Nat.le_refl _⟩ rfl hl rfl (Nat.le_of_ble_eq_true rfl) d_AP_paid_11 ?_
    refine b_if_ne (tgt := 20) hc d_AP_paid_14 (by decide) (fun c_1 => ?_) (fun c_1 => ?_)
    · obtain ⟨j1, rfl, j1_1, j1_2⟩ := rng_nat c_1 (by decide)
      have j1_e := nI_tI (j := j1) (by omega)
      have j1_t := tn_nI (j := j1) (by omega)
      try unfold rng at c_1
      refine lv_aload_n hx hb d_AP_paid_20 rfl (lv_at hl 0 rfl) ?_
      refine gf_AP_27 hc hw d_AP_paid_21 ?_
      refine lv_iload_n hx hb d_AP_paid_24 rfl (lv_at hl 1 rfl) ?_
      refine lv_iload_n hx hb d_AP_paid_25 rfl (lv_at hl 2 rfl) ?_
      refine lv_aload_n hx hb d_AP_paid_26 rfl (lv_at hl 0 rfl) ?_
      refine gf_AP_110 hc hw d_AP_paid_27 (v := .int (nI lw)) (congrArg Value.int (hC.2.1)) ?_
      refine kRV hc hw lk_AP_163 (As := [.int (nI j0), .int (nI j1), .int (nI lw)]) (rest := []) (c_LE_paidBy l D g _ pc cn fr to hv dy an af hI hL lw j0 j1 (by omega) hpc6 (by omega) (by omega)) (rc_LE hw) ⟨Nat.le_of_ble_eq_true rfl, Nat.le_of_ble_eq_true rfl⟩ ⟨Nat.le_refl _, Nat.le_refl _⟩ rfl hl rfl (Nat.le_of_ble_eq_true rfl) d_AP_paid_30 ?_
      exact R_i hc hr hlocks (by refine congrArg Value.int ?_; unfold s_paid; simp only [inN, rng, j0_t, j0_e, j1_t, j1_e]; (repeat' split) <;> first | (exfalso; omega) | rfl) d_AP_paid_33
    · try unfold rng at c_1
      refine lv_bipush (v := (-2)) hx hb d_AP_paid_17 (by decide) ?_
      exact R_i hc hr hlocks (by refine congrArg Value.int ?_; unfold s_paid; simp only [inN, rng, j0_t, j0_e]; (repeat' split) <;> first | (exfalso; omega) | rfl) d_AP_paid_19
  · refine kRV hc hw lk_AP_96 (As := [.int p0]) (rest := []) (c_AP_personAt_n l D g _ pc (hPC.1) hpc6 p0 hq0) (rc_AP hw) ⟨Nat.le_of_ble_eq_true rfl, Nat.le_of_ble_eq_true rfl⟩ ⟨Nat.le_refl _, Nat.le_refl _⟩ rfl hl rfl (Nat.le_of_ble_eq_true rfl) d_AP_paid_2 ?_
    unfold inN at hq0
    refine lv_ifnonnullN hx hb d_AP_paid_5 ?_
    refine lv_iconst (v := (-1)) hx hb d_AP_paid_8 (by decide) ?_
    exact R_i hc hr hlocks (by refine congrArg Value.int ?_; unfold s_paid; simp only [inN, rng]; (repeat' split) <;> first | (exfalso; omega) | rfl) d_AP_paid_9
set_option maxHeartbeats 4000000 in
theorem c_AP_owes (l : Launch) (D : va_G) (g : wG) (F : wF) (pc : Nat) (lf : Nat → Nat) (lw : Nat) (cn : Nat) (fr to hv dy : Nat → Nat) (an af : Nat → Option Nat) (ln : Nat → Option Nat) (sz : Nat → Nat) (ce : Nat → Nat → Int32) (tr ft : Int32) (hG : GI g (pc, lf) lw (cn, fr, to, hv, dy, an, af) (ln, sz, ce)) (hC : CI g F (pc, lf) lw (cn, fr, to, hv, dy, an, af) (ln, sz, ce) tr ft) (p0 p1 p2 : Int32) : CR l y_AP_owes b_AP_owes 4 (Option.some Jvm.ClassFile.FieldType.int) 3 D g F [.ref (wad g 0), .int p0, .int p1, .int p2] (.int (s_owes (wK g) (pc, lf) (cn, fr, to, hv, dy, an, af) p0 p1 p2)) := by
  refine CR.start rfl (Nat.le_of_ble_eq_true rfl) ?_
  intro p e s m args below meth c A ls hc hr hlocks hw hl
  have hl : lv_has ls 4 [(0, .ref (wad g 0)), (1, .int p0), (2, .int p1), (3, .int p2)] := hl
  have hx := hc.1
  have hb := hc.2.1
  obtain ⟨hpc6, hpcm, hm6, hpc0, hper⟩ : PI g pc lf := hG.1
  have hlw : lw ≤ 2 := hG.2.1
  have hI : LI pc cn fr to hv dy an af := hG.2.2.1
  have hcn := hI.1
  have hSI : SI ln sz := hG.2.2.2
  have hPC : PC F pc lf := hC.1
  have hL : LC g F cn fr to hv dy an af := hC.2.2.1
  have hSC : SC F ln sz ce := hC.2.2.2.1
  refine lv_aload_n hx hb d_AP_owes_0 rfl (lv_at hl 0 rfl) ?_
  refine lv_iload_n hx hb d_AP_owes_1 rfl (lv_at hl 1 rfl) ?_
  by_cases hq0 : inN p0 pc
  · obtain ⟨j0, rfl, j0_1⟩ := inN_nat hq0
    have j0_e := nI_tI (j := j0) (by omega)
    have j0_t := tn_nI (j := j0) (by omega)
    unfold inN at hq0
    refine kRV hc hw lk_AP_96 (As := [.int (nI j0)]) (rest := []) (c_AP_personAt_y l D g _ pc (hPC.1) hpcm hm6 (j0) (j0_1)) (rc_AP hw) ⟨Nat.le_of_ble_eq_true rfl, Nat.le_of_ble_eq_true rfl⟩ ⟨Nat.le_refl _, Nat.le_refl _⟩ rfl hl rfl (Nat.le_of_ble_eq_true rfl) d_AP_owes_2 ?_
    refine lv_ifnull hx hb d_AP_owes_5 ?_
    refine lv_aload_n hx hb d_AP_owes_8 rfl (lv_at hl 0 rfl) ?_
    refine lv_iload_n hx hb d_AP_owes_9 rfl (lv_at hl 2 rfl) ?_
    by_cases hq1 : inN p1 pc
    · obtain ⟨j1, rfl, j1_1⟩ := inN_nat hq1
      have j1_e := nI_tI (j := j1) (by omega)
      have j1_t := tn_nI (j := j1) (by omega)
      unfold inN at hq1
      refine kRV hc hw lk_AP_96 (As := [.int (nI j1)]) (rest := []) (c_AP_personAt_y l D g _ pc (hPC.1) hpcm hm6 (j1) (j1_1)) (rc_AP hw) ⟨Nat.le_of_ble_eq_true rfl, Nat.le_of_ble_eq_true rfl⟩ ⟨Nat.le_refl _, Nat.le_refl _⟩ rfl hl rfl (Nat.le_of_ble_eq_true rfl) d_AP_owes_10 ?_
      refine lv_ifnonnull (tgt := 18) hx hb d_AP_owes_13 (by decide) ?_
      refine lv_iload_n hx hb d_AP_owes_18 rfl (lv_at hl 3 rfl) ?_
      refine kRS hc hw lk_AP_113 (As := [.int p2]) (rest := []) (c_AP_isDay l D g _ (p2)) ⟨Nat.le_of_ble_eq_true rfl, Nat.le_of_ble_eq_true rfl⟩ ⟨Nat.le_refl _, Nat.le_refl _⟩ rfl hl rfl (Nat.le_of_ble_eq_true rfl) d_AP_owes_19 ?_
      refine b_if_ne (tgt := 28) hc d_AP_owes_22 (by decide) (fun c_1 => ?_) (fun c_1 => ?_)
      · obtain ⟨j2, rfl, j2_1, j2_2⟩ := rng_nat c_1 (by decide)
        have j2_e := nI_tI (j := j2) (by omega)
        have j2_t := tn_nI (j := j2) (by omega)
        try unfold rng at c_1
        refine lv_aload_n hx hb d_AP_owes_28 rfl (lv_at hl 0 rfl) ?_
        refine gf_AP_27 hc hw d_AP_owes_29 ?_
        refine lv_iload_n hx hb d_AP_owes_32 rfl (lv_at hl 1 rfl) ?_
        refine lv_iload_n hx hb d_AP_owes_33 rfl (lv_at hl 2 rfl) ?_
        refine lv_iload_n hx hb d_AP_owes_34 rfl (lv_at hl 3 rfl) ?_
        refine kRV hc hw lk_AP_166 (As := [.int (nI j0), .int (nI j1), .int (nI j2)]) (rest := []) (c_LE_owed l D g _ pc cn fr to hv dy an af hI hL j0 j1 j2 hpc6 (by omega) (by omega) (by omega)) (rc_LE hw) ⟨Nat.le_of_ble_eq_true rfl, Nat.le_of_ble_eq_true rfl⟩ ⟨Nat.le_refl _, Nat.le_refl _⟩ rfl hl rfl (Nat.le_of_ble_eq_true rfl) d_AP_owes_35 ?_
        exact R_i hc hr hlocks (by refine congrArg Value.int ?_; unfold s_owes; simp only [inN, rng, j0_t, j0_e, j1_t, j1_e, j2_t, j2_e]; (repeat' split) <;> first | (exfalso; omega) | rfl) d_AP_owes_38
      · try unfold rng at c_1
        refine lv_bipush (v := (-2)) hx hb d_AP_owes_25 (by decide) ?_
        exact R_i hc hr hlocks (by refine congrArg Value.int ?_; unfold s_owes; simp only [inN, rng, j0_t, j0_e, j1_t, j1_e]; (repeat' split) <;> first | (exfalso; omega) | rfl) d_AP_owes_27
    · refine kRV hc hw lk_AP_96 (As := [.int p1]) (rest := []) (c_AP_personAt_n l D g _ pc (hPC.1) hpc6 p1 hq1) (rc_AP hw) ⟨Nat.le_of_ble_eq_true rfl, Nat.le_of_ble_eq_true rfl⟩ ⟨Nat.le_refl _, Nat.le_refl _⟩ rfl hl rfl (Nat.le_of_ble_eq_true rfl) d_AP_owes_10 ?_
      unfold inN at hq1
      refine lv_ifnonnullN hx hb d_AP_owes_13 ?_
      refine lv_iconst (v := (-1)) hx hb d_AP_owes_16 (by decide) ?_
      exact R_i hc hr hlocks (by refine congrArg Value.int ?_; unfold s_owes; simp only [inN, rng, j0_t, j0_e]; (repeat' split) <;> first | (exfalso; omega) | rfl) d_AP_owes_17
  · refine kRV hc hw lk_AP_96 (As := [.int p0]) (rest := []) (c_AP_personAt_n l D g _ pc (hPC.1) hpc6 p0 hq0) (rc_AP hw) ⟨Nat.le_of_ble_eq_true rfl, Nat.le_of_ble_eq_true rfl⟩ ⟨Nat.le_refl _, Nat.le_refl _⟩ rfl hl rfl (Nat.le_of_ble_eq_true rfl) d_AP_owes_2 ?_
    unfold inN at hq0
    refine lv_ifnullN (tgt := 16) hx hb d_AP_owes_5 (by decide) ?_
    refine lv_iconst (v := (-1)) hx hb d_AP_owes_16 (by decide) ?_
    exact R_i hc hr hlocks (by refine congrArg Value.int ?_; unfold s_owes; simp only [inN, rng]; (repeat' split) <;> first | (exfalso; omega) | rfl) d_AP_owes_17
set_option maxHeartbeats 4000000 in
theorem c_AP_net (l : Launch) (D : va_G) (g : wG) (F : wF) (pc : Nat) (lf : Nat → Nat) (lw : Nat) (cn : Nat) (fr to hv dy : Nat → Nat) (an af : Nat → Option Nat) (ln : Nat → Option Nat) (sz : Nat → Nat) (ce : Nat → Nat → Int32) (tr ft : Int32) (hG : GI g (pc, lf) lw (cn, fr, to, hv, dy, an, af) (ln, sz, ce)) (hC : CI g F (pc, lf) lw (cn, fr, to, hv, dy, an, af) (ln, sz, ce) tr ft) (p0 p1 : Int32) : CR l y_AP_net b_AP_net 3 (Option.some Jvm.ClassFile.FieldType.int) 3 D g F [.ref (wad g 0), .int p0, .int p1] (.int (s_net (wK g) (pc, lf) (cn, fr, to, hv, dy, an, af) p0 p1)) := by
  refine CR.start rfl (Nat.le_of_ble_eq_true rfl) ?_
  intro p e s m args below meth c A ls hc hr hlocks hw hl
  have hl : lv_has ls 3 [(0, .ref (wad g 0)), (1, .int p0), (2, .int p1)] := hl
  have hx := hc.1
  have hb := hc.2.1
  obtain ⟨hpc6, hpcm, hm6, hpc0, hper⟩ : PI g pc lf := hG.1
  have hlw : lw ≤ 2 := hG.2.1
  have hI : LI pc cn fr to hv dy an af := hG.2.2.1
  have hcn := hI.1
  have hSI : SI ln sz := hG.2.2.2
  have hPC : PC F pc lf := hC.1
  have hL : LC g F cn fr to hv dy an af := hC.2.2.1
  have hSC : SC F ln sz ce := hC.2.2.2.1
  refine lv_aload_n hx hb d_AP_net_0 rfl (lv_at hl 0 rfl) ?_
  refine lv_iload_n hx hb d_AP_net_1 rfl (lv_at hl 1 rfl) ?_
  by_cases hq0 : inN p0 pc
  · obtain ⟨j0, rfl, j0_1⟩ := inN_nat hq0
    have j0_e := nI_tI (j := j0) (by omega)
    have j0_t := tn_nI (j := j0) (by omega)
    unfold inN at hq0
    refine kRV hc hw lk_AP_96 (As := [.int (nI j0)]) (rest := []) (c_AP_personAt_y l D g _ pc (hPC.1) hpcm hm6 (j0) (j0_1)) (rc_AP hw) ⟨Nat.le_of_ble_eq_true rfl, Nat.le_of_ble_eq_true rfl⟩ ⟨Nat.le_refl _, Nat.le_refl _⟩ rfl hl rfl (Nat.le_of_ble_eq_true rfl) d_AP_net_2 ?_
    refine lv_ifnonnull (tgt := 10) hx hb d_AP_net_5 (by decide) ?_
    refine lv_iload_n hx hb d_AP_net_10 rfl (lv_at hl 2 rfl) ?_
    refine kRS hc hw lk_AP_113 (As := [.int p1]) (rest := []) (c_AP_isDay l D g _ (p1)) ⟨Nat.le_of_ble_eq_true rfl, Nat.le_of_ble_eq_true rfl⟩ ⟨Nat.le_refl _, Nat.le_refl _⟩ rfl hl rfl (Nat.le_of_ble_eq_true rfl) d_AP_net_11 ?_
    refine b_if_ne (tgt := 20) hc d_AP_net_14 (by decide) (fun c_1 => ?_) (fun c_1 => ?_)
    · obtain ⟨j1, rfl, j1_1, j1_2⟩ := rng_nat c_1 (by decide)
      have j1_e := nI_tI (j := j1) (by omega)
      have j1_t := tn_nI (j := j1) (by omega)
      try unfold rng at c_1
      refine lv_aload_n hx hb d_AP_net_20 rfl (lv_at hl 0 rfl) ?_
      refine gf_AP_27 hc hw d_AP_net_21 ?_
      refine lv_iload_n hx hb d_AP_net_24 rfl (lv_at hl 1 rfl) ?_
      refine lv_iload_n hx hb d_AP_net_25 rfl (lv_at hl 2 rfl) ?_
      refine kRV hc hw lk_AP_169 (As := [.int (nI j0), .int (nI j1)]) (rest := []) (c_LE_netOf l D g _ pc cn fr to hv dy an af hI hL j0 j1 hpc6 (by omega) (by omega)) (rc_LE hw) ⟨Nat.le_of_ble_eq_true rfl, Nat.le_of_ble_eq_true rfl⟩ ⟨Nat.le_refl _, Nat.le_refl _⟩ rfl hl rfl (Nat.le_of_ble_eq_true rfl) d_AP_net_26 ?_
      refine lv_ldc hx hb hc.2.2.2.1 (hc.2.2.2.2 _ g_422) d_AP_net_29 ?_
      rw [show (1000000 : Int32) = nI 1000000 from by decide +kernel]
      refine lv_iadd hx hb d_AP_net_31 ?_
      exact R_i hc hr hlocks (by refine congrArg Value.int ?_; unfold s_net; simp only [inN, rng, j0_t, j0_e, j1_t, j1_e]; (repeat' split) <;> first | (exfalso; omega) | rfl) d_AP_net_32
    · try unfold rng at c_1
      refine lv_bipush (v := (-2)) hx hb d_AP_net_17 (by decide) ?_
      exact R_i hc hr hlocks (by refine congrArg Value.int ?_; unfold s_net; simp only [inN, rng, j0_t, j0_e]; (repeat' split) <;> first | (exfalso; omega) | rfl) d_AP_net_19
  · refine kRV hc hw lk_AP_96 (As := [.int p0]) (rest := []) (c_AP_personAt_n l D g _ pc (hPC.1) hpc6 p0 hq0) (rc_AP hw) ⟨Nat.le_of_ble_eq_true rfl, Nat.le_of_ble_eq_true rfl⟩ ⟨Nat.le_refl _, Nat.le_refl _⟩ rfl hl rfl (Nat.le_of_ble_eq_true rfl) d_AP_net_2 ?_
    unfold inN at hq0
    refine lv_ifnonnullN hx hb d_AP_net_5 ?_
    refine lv_iconst (v := (-1)) hx hb d_AP_net_8 (by decide) ?_
    exact R_i hc hr hlocks (by refine congrArg Value.int ?_; unfold s_net; simp only [inN, rng]; (repeat' split) <;> first | (exfalso; omega) | rfl) d_AP_net_9
set_option maxHeartbeats 4000000 in
theorem c_AP_trace (l : Launch) (D : va_G) (g : wG) (F : wF) (pc : Nat) (lf : Nat → Nat) (lw : Nat) (cn : Nat) (fr to hv dy : Nat → Nat) (an af : Nat → Option Nat) (ln : Nat → Option Nat) (sz : Nat → Nat) (ce : Nat → Nat → Int32) (tr ft : Int32) (hG : GI g (pc, lf) lw (cn, fr, to, hv, dy, an, af) (ln, sz, ce)) (hC : CI g F (pc, lf) lw (cn, fr, to, hv, dy, an, af) (ln, sz, ce) tr ft) : CR l y_AP_trace b_AP_trace 1 (Option.some Jvm.ClassFile.FieldType.int) 3 D g F [.ref (wad g 0)] (.int tr) := by
  refine CR.start rfl (Nat.le_of_ble_eq_true rfl) ?_
  intro p e s m args below meth c A ls hc hr hlocks hw hl
  have hl : lv_has ls 1 [(0, .ref (wad g 0))] := hl
  have hx := hc.1
  have hb := hc.2.1
  obtain ⟨hpc6, hpcm, hm6, hpc0, hper⟩ : PI g pc lf := hG.1
  have hlw : lw ≤ 2 := hG.2.1
  have hI : LI pc cn fr to hv dy an af := hG.2.2.1
  have hcn := hI.1
  have hSI : SI ln sz := hG.2.2.2
  have hPC : PC F pc lf := hC.1
  have hL : LC g F cn fr to hv dy an af := hC.2.2.1
  have hSC : SC F ln sz ce := hC.2.2.2.1
  refine lv_aload_n hx hb d_AP_trace_0 rfl (lv_at hl 0 rfl) ?_
  refine gf_AP_55 hc hw d_AP_trace_1 ?_
  refine gf_AP_253 hc hw d_AP_trace_4 (v := .int tr) (congrArg Value.int (hC.2.2.2.2.1)) ?_
  exact R_i hc hr hlocks (rfl) d_AP_trace_7
set_option maxHeartbeats 4000000 in
theorem c_AP_fault (l : Launch) (D : va_G) (g : wG) (F : wF) (pc : Nat) (lf : Nat → Nat) (lw : Nat) (cn : Nat) (fr to hv dy : Nat → Nat) (an af : Nat → Option Nat) (ln : Nat → Option Nat) (sz : Nat → Nat) (ce : Nat → Nat → Int32) (tr ft : Int32) (hG : GI g (pc, lf) lw (cn, fr, to, hv, dy, an, af) (ln, sz, ce)) (hC : CI g F (pc, lf) lw (cn, fr, to, hv, dy, an, af) (ln, sz, ce) tr ft) : CR l y_AP_fault b_AP_fault 1 (Option.some Jvm.ClassFile.FieldType.int) 3 D g F [.ref (wad g 0)] (.int ft) := by
  refine CR.start rfl (Nat.le_of_ble_eq_true rfl) ?_
  intro p e s m args below meth c A ls hc hr hlocks hw hl
  have hl : lv_has ls 1 [(0, .ref (wad g 0))] := hl
  have hx := hc.1
  have hb := hc.2.1
  obtain ⟨hpc6, hpcm, hm6, hpc0, hper⟩ : PI g pc lf := hG.1
  have hlw : lw ≤ 2 := hG.2.1
  have hI : LI pc cn fr to hv dy an af := hG.2.2.1
  have hcn := hI.1
  have hSI : SI ln sz := hG.2.2.2
  have hPC : PC F pc lf := hC.1
  have hL : LC g F cn fr to hv dy an af := hC.2.2.1
  have hSC : SC F ln sz ce := hC.2.2.2.1
  refine lv_aload_n hx hb d_AP_fault_0 rfl (lv_at hl 0 rfl) ?_
  refine gf_AP_59 hc hw d_AP_fault_1 (v := .int ft) (congrArg Value.int (hC.2.2.2.2.2.1)) ?_
  exact R_i hc hr hlocks (rfl) d_AP_fault_4
set_option maxHeartbeats 4000000 in
theorem c_AP_many (l : Launch) (D : va_G) (g : wG) (F : wF) (pc : Nat) (lf : Nat → Nat) (lw : Nat) (cn : Nat) (fr to hv dy : Nat → Nat) (an af : Nat → Option Nat) (ln : Nat → Option Nat) (sz : Nat → Nat) (ce : Nat → Nat → Int32) (tr ft : Int32) (hG : GI g (pc, lf) lw (cn, fr, to, hv, dy, an, af) (ln, sz, ce)) (hC : CI g F (pc, lf) lw (cn, fr, to, hv, dy, an, af) (ln, sz, ce) tr ft) (p0 : Int32) : CR l y_AP_many b_AP_many 2 (Option.some Jvm.ClassFile.FieldType.int) 3 D g F [.ref (wad g 0), .int p0] (.int (s_many (pc, lf) lw (cn, fr, to, hv, dy, an, af) p0)) := by
  refine CR.start rfl (Nat.le_of_ble_eq_true rfl) ?_
  intro p e s m args below meth c A ls hc hr hlocks hw hl
  have hl : lv_has ls 2 [(0, .ref (wad g 0)), (1, .int p0)] := hl
  have hx := hc.1
  have hb := hc.2.1
  obtain ⟨hpc6, hpcm, hm6, hpc0, hper⟩ : PI g pc lf := hG.1
  have hlw : lw ≤ 2 := hG.2.1
  have hI : LI pc cn fr to hv dy an af := hG.2.2.1
  have hcn := hI.1
  have hSI : SI ln sz := hG.2.2.2
  have hPC : PC F pc lf := hC.1
  have hL : LC g F cn fr to hv dy an af := hC.2.2.1
  have hSC : SC F ln sz ce := hC.2.2.2.1
  refine lv_iload_n hx hb d_AP_many_0 rfl (lv_at hl 1 rfl) ?_
  by_cases c_1 : (p0).toInt = 0
  · refine lv_tableIn (tgt := 28) hx hb d_AP_many_1 (by omega) (by omega) (by rw [c_1] <;> rfl) (by decide) ?_
    refine lv_aload_n hx hb d_AP_many_28 rfl (lv_at hl 0 rfl) ?_
    refine gf_AP_93 hc hw d_AP_many_29 (v := .int (nI pc)) (congrArg Value.int (hPC.1)) ?_
    exact R_i hc hr hlocks (by refine congrArg Value.int ?_; unfold s_many; simp only [inN, rng]; (repeat' split) <;> first | (exfalso; omega) | rfl) d_AP_many_32
  by_cases c_2 : (p0).toInt = 1
  · refine lv_tableIn (tgt := 33) hx hb d_AP_many_1 (by omega) (by omega) (by rw [c_2] <;> rfl) (by decide) ?_
    refine lv_aload_n hx hb d_AP_many_33 rfl (lv_at hl 0 rfl) ?_
    refine gf_AP_27 hc hw d_AP_many_34 ?_
    refine gf_AP_156 hc hw d_AP_many_37 (v := .int (nI cn)) (congrArg Value.int (hL.1)) ?_
    exact R_i hc hr hlocks (by refine congrArg Value.int ?_; unfold s_many; simp only [inN, rng]; (repeat' split) <;> first | (exfalso; omega) | rfl) d_AP_many_40
  by_cases c_3 : (p0).toInt = 2
  · refine lv_tableIn (tgt := 41) hx hb d_AP_many_1 (by omega) (by omega) (by rw [c_3] <;> rfl) (by decide) ?_
    refine lv_aload_n hx hb d_AP_many_41 rfl (lv_at hl 0 rfl) ?_
    refine gf_AP_110 hc hw d_AP_many_42 (v := .int (nI lw)) (congrArg Value.int (hC.2.1)) ?_
    exact R_i hc hr hlocks (by refine congrArg Value.int ?_; unfold s_many; simp only [inN, rng]; (repeat' split) <;> first | (exfalso; omega) | rfl) d_AP_many_45
  have hout : (p0).toInt < 0 ∨ 2 < (p0).toInt := by omega
  refine lv_tableOut (tgt := 46) hx hb d_AP_many_1 hout (by decide) ?_
  refine lv_bipush (v := (-2)) hx hb d_AP_many_46 (by decide) ?_
  exact R_i hc hr hlocks (by refine congrArg Value.int ?_; unfold s_many; simp only [inN, rng]; (repeat' split) <;> first | (exfalso; omega) | rfl) d_AP_many_48
