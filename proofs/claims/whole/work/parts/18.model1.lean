/-! printed by wip/gen/meths7.py: the model, calls over persons and letters -/
theorem u2_u2 (F : wF) (h i : Nat) (x y : Int32) : u2 (u2 F h i x) h i y = u2 F h i y := by
  funext a b
  unfold u2
  split <;> rfl
theorem u2_id {F : wF} {h i : Nat} {x : Int32} (e : F h i = x) : u2 F h i x = F := by
  funext a b
  unfold u2
  split
  · rename_i q; rw [q.1, q.2, e]
  · rfl
theorem up_comm {α : Type} {f : Nat → α} {a b : Nat} {x y : α} (h : a ≠ b) : va_up (va_up f a x) b y = va_up (va_up f b y) a x := by
  funext k
  unfold va_up
  by_cases h1 : k = a
  · subst h1; simp [h]
  · simp [h1]
theorem LM_y {F : wF} {c x y : Nat} {fr to hv dy : Nat → Nat} {an af : Nat → Option Nat} (h : LM F c fr to hv dy an af) : LM (u2 F 70 x (nI y)) c fr to hv dy (va_up an x (some y)) af := by
  refine ⟨(u2_h (by decide)).trans h.1, fun k hk => ?_⟩
  obtain ⟨h1, h2, h3, h4, h5, h6⟩ := h.2 k hk
  refine ⟨by simp [u2, h1], by simp [u2, h2], by simp [u2, h3], by simp [u2, h4], ?_, by simp [u2, h6]⟩
  by_cases hc : k = x
  · subst hc; simp [u2, va_up, oI]
  · simp [u2, va_up, hc, h5]
theorem LM_hv {F : wF} {c x w : Nat} {fr to hv dy : Nat → Nat} {an af : Nat → Option Nat} (h : LM F c fr to hv dy an af) : LM (u2 F 68 x (nI w)) c fr to (va_up hv x w) dy an af := by
  refine ⟨(u2_h (by decide)).trans h.1, fun k hk => ?_⟩
  obtain ⟨h1, h2, h3, h4, h5, h6⟩ := h.2 k hk
  refine ⟨by simp [u2, h1], by simp [u2, h2], ?_, by simp [u2, h4], by simp [u2, h5], by simp [u2, h6]⟩
  by_cases hc : k = x
  · subst hc; simp [u2, va_up]
  · simp [u2, va_up, hc, h3]
theorem LI_hv {pc cn x w : Nat} {fr to hv dy : Nat → Nat} {an af : Nat → Option Nat} (hI : LI pc cn fr to hv dy an af) (h1 : 1 ≤ w) (h2 : w ≤ 99) : LI pc cn fr to (va_up hv x w) dy an af := by
  refine ⟨hI.1, fun k hk => ?_⟩
  obtain ⟨⟨a1, a2, a3, a4, a5, a6⟩, b, c⟩ := hI.2 k hk
  refine ⟨⟨a1, a2, a3, ?_, ?_, a6⟩, b, c⟩ <;> (unfold va_up; split <;> omega)
theorem lsc_hv {g : wG} {fr hv : Nat → Nat} {x w : Nat} : lsc g fr (va_up hv x w) = fun i => if i = x then shw (wK g (fr x)) w else lsc g fr hv i := by
  funext i
  unfold lsc va_up
  by_cases h : i = x
  · subst h; simp
  · simp [h]
set_option maxHeartbeats 4000000 in
theorem c_MO_ofPerson (l : Launch) (D : va_G) (g : wG) (F : wF) (pc : Nat) (lf : Nat → Nat) (lw : Nat) (cn : Nat) (fr to hv dy : Nat → Nat) (an af : Nat → Option Nat) (ln : Nat → Option Nat) (sz : Nat → Nat) (ce : Nat → Nat → Int32) (tr ft : Int32) (hG : GI g (pc, lf) lw (cn, fr, to, hv, dy, an, af) (ln, sz, ce)) (hMI : MI g F (pc, lf) lw (cn, fr, to, hv, dy, an, af) (ln, sz, ce) tr ft) (zp0 zp1 : Int32) : CR l y_MO_ofPerson b_MO_ofPerson 3 (Option.some Jvm.ClassFile.FieldType.int) 5 D g F [.ref (wad g 58), .int zp0, .int zp1] (.int (s_ofPerson (wK g) (pc, lf) zp0 zp1)) := by
  refine CR.start rfl (Nat.le_of_ble_eq_true rfl) ?_
  intro p e s m args below meth c A ls hc hr hlocks hw hl
  have hl : lv_has ls 3 [(0, .ref (wad g 58)), (1, .int zp0), (2, .int zp1)] := hl
  have hx := hc.1
  have hb := hc.2.1
  obtain ⟨hpc6, hpcm, hm6, hpc0, hper⟩ : PI g pc lf := hG.1
  have hlw : lw ≤ 2 := hG.2.1
  have hI : LI pc cn fr to hv dy an af := hG.2.2.1
  have hcn := hI.1
  have hSI : SI ln sz := hG.2.2.2
  have hPM : PM g F pc lf := hMI.1
  have hM : LM F cn fr to hv dy an af := hMI.2.2.1
  have hSM : SM F ln sz ce := hMI.2.2.2.1
  have hK : ∀ q, q < pc → F 62 q = nI (wK g q) ∧ wK g q ≤ 2 := fun q hq => ⟨(hPM.2 q hq).1, (hper q hq).1⟩
  refine lv_aload_n hx hb d_MO_ofPerson_0 rfl (lv_at hl 0 rfl) ?_
  refine lv_iload_n hx hb d_MO_ofPerson_1 rfl (lv_at hl 1 rfl) ?_
  refine kRV hc hw lk_MO_116 (As := [.int zp0]) (rest := []) (c_MO_isPerson l D g _ pc (hPM.1) hpc6 (zp0)) (rc_MO hw) ⟨Nat.le_of_ble_eq_true rfl, Nat.le_of_ble_eq_true rfl⟩ ⟨Nat.le_refl _, Nat.le_refl _⟩ rfl hl rfl (Nat.le_of_ble_eq_true rfl) d_MO_ofPerson_2 ?_
  refine b_if_ne (tgt := 10) hc d_MO_ofPerson_5 (by decide) (fun c_1 => ?_) (fun c_1 => ?_)
  · obtain ⟨zj0, rfl, zj0_1⟩ := inN_nat c_1
    have zj0_e := nI_tI (j := zj0) (by omega)
    have zj0_t := tn_nI (j := zj0) (by omega)
    try unfold inN at c_1
    refine lv_iload_n hx hb d_MO_ofPerson_10 rfl (lv_at hl 2 rfl) ?_
    refine u_if_ne (tgt := 23) (X := (zp1).toInt) hc (rfl) d_MO_ofPerson_11 (by decide) (fun c_2 => ?_) (fun c_2 => ?_)
    · refine lv_iload_n hx hb d_MO_ofPerson_23 rfl (lv_at hl 2 rfl) ?_
      refine lv_iconst (v := nI 1) hx hb d_MO_ofPerson_24 (by decide) ?_
      refine u_icmp_ne (tgt := 37) (X := (zp1).toInt) (Y := 1) hc (rfl) (by decide) d_MO_ofPerson_25 (by decide) (fun c_3 => ?_) (fun c_3 => ?_)
      · refine lv_bipush (v := (-2)) hx hb d_MO_ofPerson_37 (by decide) ?_
        exact R_i hc hr hlocks (by refine congrArg Value.int ?_; unfold s_ofPerson; (try simp only [inN, rng, zj0_t, zj0_e]); (repeat' split) <;> first | (exfalso; omega) | contradiction | rfl) d_MO_ofPerson_39
      · refine lv_aload_n hx hb d_MO_ofPerson_28 rfl (lv_at hl 0 rfl) ?_
        refine gf_MO_22 hc hw d_MO_ofPerson_29 ?_
        refine lv_iload_n hx hb d_MO_ofPerson_32 rfl (lv_at hl 1 rfl) ?_
        refine r_iald hc hw (h := 63) (n := 6) (i := zj0) (fun _ => rfl) (by omega) (by omega) (by decide) d_MO_ofPerson_33 (v := .int (nI (lf zj0))) (congrArg Value.int ((hPM.2 (zj0) (by omega)).2)) ?_
        refine lv_goto (tgt := 39) hx hb d_MO_ofPerson_34 (by decide) ?_
        exact R_i hc hr hlocks (by refine congrArg Value.int ?_; unfold s_ofPerson; (try simp only [inN, rng, zj0_t, zj0_e]); (repeat' split) <;> first | (exfalso; omega) | contradiction | rfl) d_MO_ofPerson_39
    · refine lv_aload_n hx hb d_MO_ofPerson_14 rfl (lv_at hl 0 rfl) ?_
      refine gf_MO_19 hc hw d_MO_ofPerson_15 ?_
      refine lv_iload_n hx hb d_MO_ofPerson_18 rfl (lv_at hl 1 rfl) ?_
      refine r_iald hc hw (h := 62) (n := 6) (i := zj0) (fun _ => rfl) (by omega) (by omega) (by decide) d_MO_ofPerson_19 (v := .int (nI (wK g zj0))) (congrArg Value.int ((hPM.2 (zj0) (by omega)).1)) ?_
      refine lv_goto (tgt := 39) hx hb d_MO_ofPerson_20 (by decide) ?_
      exact R_i hc hr hlocks (by refine congrArg Value.int ?_; unfold s_ofPerson; (try simp only [inN, rng, zj0_t, zj0_e]); (repeat' split) <;> first | (exfalso; omega) | contradiction | rfl) d_MO_ofPerson_39
  · try unfold inN at c_1
    refine lv_iconst (v := (-1)) hx hb d_MO_ofPerson_8 (by decide) ?_
    exact R_i hc hr hlocks (by refine congrArg Value.int ?_; unfold s_ofPerson; (try simp only [inN, rng]); (repeat' split) <;> first | (exfalso; omega) | contradiction | rfl) d_MO_ofPerson_9
set_option maxHeartbeats 4000000 in
theorem c_MO_scale (l : Launch) (D : va_G) (g : wG) (F : wF) (pc : Nat) (lf : Nat → Nat) (lw : Nat) (cn : Nat) (fr to hv dy : Nat → Nat) (an af : Nat → Option Nat) (ln : Nat → Option Nat) (sz : Nat → Nat) (ce : Nat → Nat → Int32) (tr ft : Int32) (hG : GI g (pc, lf) lw (cn, fr, to, hv, dy, an, af) (ln, sz, ce)) (hMI : MI g F (pc, lf) lw (cn, fr, to, hv, dy, an, af) (ln, sz, ce) tr ft) (zp0 zp1 : Int32) : CR l y_MO_scale b_MO_scale 3 (Option.some Jvm.ClassFile.FieldType.int) 5 D g F [.ref (wad g 58), .int zp0, .int zp1] (.int (s_scale (wK g) (pc, lf) zp0 zp1)) := by
  refine CR.start rfl (Nat.le_of_ble_eq_true rfl) ?_
  intro p e s m args below meth c A ls hc hr hlocks hw hl
  have hl : lv_has ls 3 [(0, .ref (wad g 58)), (1, .int zp0), (2, .int zp1)] := hl
  have hx := hc.1
  have hb := hc.2.1
  obtain ⟨hpc6, hpcm, hm6, hpc0, hper⟩ : PI g pc lf := hG.1
  have hlw : lw ≤ 2 := hG.2.1
  have hI : LI pc cn fr to hv dy an af := hG.2.2.1
  have hcn := hI.1
  have hSI : SI ln sz := hG.2.2.2
  have hPM : PM g F pc lf := hMI.1
  have hM : LM F cn fr to hv dy an af := hMI.2.2.1
  have hSM : SM F ln sz ce := hMI.2.2.2.1
  have hK : ∀ q, q < pc → F 62 q = nI (wK g q) ∧ wK g q ≤ 2 := fun q hq => ⟨(hPM.2 q hq).1, (hper q hq).1⟩
  refine lv_aload_n hx hb d_MO_scale_0 rfl (lv_at hl 0 rfl) ?_
  refine lv_iload_n hx hb d_MO_scale_1 rfl (lv_at hl 1 rfl) ?_
  refine kRV hc hw lk_MO_116 (As := [.int zp0]) (rest := []) (c_MO_isPerson l D g _ pc (hPM.1) hpc6 (zp0)) (rc_MO hw) ⟨Nat.le_of_ble_eq_true rfl, Nat.le_of_ble_eq_true rfl⟩ ⟨Nat.le_refl _, Nat.le_refl _⟩ rfl hl rfl (Nat.le_of_ble_eq_true rfl) d_MO_scale_2 ?_
  refine b_if_ne (tgt := 10) hc d_MO_scale_5 (by decide) (fun c_1 => ?_) (fun c_1 => ?_)
  · obtain ⟨zj0, rfl, zj0_1⟩ := inN_nat c_1
    have zj0_e := nI_tI (j := zj0) (by omega)
    have zj0_t := tn_nI (j := zj0) (by omega)
    try unfold inN at c_1
    refine lv_iload_n hx hb d_MO_scale_10 rfl (lv_at hl 2 rfl) ?_
    refine lv_iconst (v := nI 1) hx hb d_MO_scale_11 (by decide) ?_
    refine lv_bipush (v := nI 99) hx hb d_MO_scale_12 (by decide) ?_
    refine kRS hc hw lk_MO_76 (As := [.int zp1, .int (nI 1), .int (nI 99)]) (rest := []) (c_MO_within l D g _ (zp1) (nI 1) (nI 99) 1 99 (by decide) (by decide)) ⟨Nat.le_of_ble_eq_true rfl, Nat.le_of_ble_eq_true rfl⟩ ⟨Nat.le_refl _, Nat.le_refl _⟩ rfl hl rfl (Nat.le_of_ble_eq_true rfl) d_MO_scale_14 ?_
    refine b_if_eq (tgt := 29) hc d_MO_scale_17 (by decide) (fun c_2 => ?_) (fun c_2 => ?_)
    · try unfold rng at c_2
      refine lv_bipush (v := (-2)) hx hb d_MO_scale_29 (by decide) ?_
      exact R_i hc hr hlocks (by refine congrArg Value.int ?_; unfold s_scale; (try simp only [inN, rng, zj0_t, zj0_e]); (repeat' split) <;> first | (exfalso; omega) | contradiction | rfl) d_MO_scale_31
    · obtain ⟨zj1, rfl, zj1_1, zj1_2⟩ := rng_nat c_2 (by decide)
      have zj1_e := nI_tI (j := zj1) (by omega)
      have zj1_t := tn_nI (j := zj1) (by omega)
      try unfold rng at c_2
      refine lv_aload_n hx hb d_MO_scale_20 rfl (lv_at hl 0 rfl) ?_
      refine lv_iload_n hx hb d_MO_scale_21 rfl (lv_at hl 1 rfl) ?_
      refine lv_iload_n hx hb d_MO_scale_22 rfl (lv_at hl 2 rfl) ?_
      refine kRV hc hw lk_MO_119 (As := [.int (nI zj0), .int (nI zj1)]) (rest := []) (c_MO_shows l D g _ (zj0) (zj1) (wK g (zj0)) (by omega) (by omega) ((hPM.2 (zj0) (by omega)).1) (hper (zj0) (by omega)).1) (rc_MO hw) ⟨Nat.le_of_ble_eq_true rfl, Nat.le_of_ble_eq_true rfl⟩ ⟨Nat.le_refl _, Nat.le_refl _⟩ rfl hl rfl (Nat.le_of_ble_eq_true rfl) d_MO_scale_23 ?_
      refine lv_goto (tgt := 31) hx hb d_MO_scale_26 (by decide) ?_
      exact R_i hc hr hlocks (by refine congrArg Value.int ?_; unfold s_scale; (try simp only [inN, rng, zj0_t, zj0_e, zj1_t, zj1_e]); (repeat' split) <;> first | (exfalso; omega) | contradiction | rfl) d_MO_scale_31
  · try unfold inN at c_1
    refine lv_iconst (v := (-1)) hx hb d_MO_scale_8 (by decide) ?_
    exact R_i hc hr hlocks (by refine congrArg Value.int ?_; unfold s_scale; (try simp only [inN, rng]); (repeat' split) <;> first | (exfalso; omega) | contradiction | rfl) d_MO_scale_9
set_option maxHeartbeats 4000000 in
theorem c_MO_ofLetter (l : Launch) (D : va_G) (g : wG) (F : wF) (pc : Nat) (lf : Nat → Nat) (lw : Nat) (cn : Nat) (fr to hv dy : Nat → Nat) (an af : Nat → Option Nat) (ln : Nat → Option Nat) (sz : Nat → Nat) (ce : Nat → Nat → Int32) (tr ft : Int32) (hG : GI g (pc, lf) lw (cn, fr, to, hv, dy, an, af) (ln, sz, ce)) (hMI : MI g F (pc, lf) lw (cn, fr, to, hv, dy, an, af) (ln, sz, ce) tr ft) (zp0 zp1 : Int32) : CR l y_MO_ofLetter b_MO_ofLetter 3 (Option.some Jvm.ClassFile.FieldType.int) 5 D g F [.ref (wad g 58), .int zp0, .int zp1] (.int (s_ofLetter (wK g) (cn, fr, to, hv, dy, an, af) zp0 zp1)) := by
  refine CR.start rfl (Nat.le_of_ble_eq_true rfl) ?_
  intro p e s m args below meth c A ls hc hr hlocks hw hl
  have hl : lv_has ls 3 [(0, .ref (wad g 58)), (1, .int zp0), (2, .int zp1)] := hl
  have hx := hc.1
  have hb := hc.2.1
  obtain ⟨hpc6, hpcm, hm6, hpc0, hper⟩ : PI g pc lf := hG.1
  have hlw : lw ≤ 2 := hG.2.1
  have hI : LI pc cn fr to hv dy an af := hG.2.2.1
  have hcn := hI.1
  have hSI : SI ln sz := hG.2.2.2
  have hPM : PM g F pc lf := hMI.1
  have hM : LM F cn fr to hv dy an af := hMI.2.2.1
  have hSM : SM F ln sz ce := hMI.2.2.2.1
  have hK : ∀ q, q < pc → F 62 q = nI (wK g q) ∧ wK g q ≤ 2 := fun q hq => ⟨(hPM.2 q hq).1, (hper q hq).1⟩
  refine lv_aload_n hx hb d_MO_ofLetter_0 rfl (lv_at hl 0 rfl) ?_
  refine lv_iload_n hx hb d_MO_ofLetter_1 rfl (lv_at hl 1 rfl) ?_
  refine kRV hc hw lk_MO_130 (As := [.int zp0]) (rest := []) (c_MO_isLetter l D g _ cn (hM.1) hcn (zp0)) (rc_MO hw) ⟨Nat.le_of_ble_eq_true rfl, Nat.le_of_ble_eq_true rfl⟩ ⟨Nat.le_refl _, Nat.le_refl _⟩ rfl hl rfl (Nat.le_of_ble_eq_true rfl) d_MO_ofLetter_2 ?_
  refine b_if_ne (tgt := 10) hc d_MO_ofLetter_5 (by decide) (fun c_1 => ?_) (fun c_1 => ?_)
  · obtain ⟨zj0, rfl, zj0_1⟩ := inN_nat c_1
    have zj0_e := nI_tI (j := zj0) (by omega)
    have zj0_t := tn_nI (j := zj0) (by omega)
    try unfold inN at c_1
    refine lv_iload_n hx hb d_MO_ofLetter_10 rfl (lv_at hl 2 rfl) ?_
    by_cases c_2 : (zp1).toInt = 0
    · refine lv_tableIn (tgt := 52) hx hb d_MO_ofLetter_11 (by omega) (by omega) (by rw [c_2] <;> rfl) (by decide) ?_
      refine lv_aload_n hx hb d_MO_ofLetter_52 rfl (lv_at hl 0 rfl) ?_
      refine gf_MO_31 hc hw d_MO_ofLetter_53 ?_
      refine lv_iload_n hx hb d_MO_ofLetter_56 rfl (lv_at hl 1 rfl) ?_
      refine r_iald hc hw (h := 66) (n := 24) (i := zj0) (fun _ => rfl) (by omega) (by omega) (by decide) d_MO_ofLetter_57 (v := .int (nI (fr zj0))) (congrArg Value.int ((hM.2 (zj0) (by omega)).1)) ?_
      exact R_i hc hr hlocks (by refine congrArg Value.int ?_; unfold s_ofLetter; (try simp only [inN, rng, zj0_t, zj0_e, lsc]); (repeat' split) <;> first | (exfalso; omega) | contradiction | rfl) d_MO_ofLetter_58
    by_cases c_3 : (zp1).toInt = 1
    · refine lv_tableIn (tgt := 59) hx hb d_MO_ofLetter_11 (by omega) (by omega) (by rw [c_3] <;> rfl) (by decide) ?_
      refine lv_aload_n hx hb d_MO_ofLetter_59 rfl (lv_at hl 0 rfl) ?_
      refine gf_MO_34 hc hw d_MO_ofLetter_60 ?_
      refine lv_iload_n hx hb d_MO_ofLetter_63 rfl (lv_at hl 1 rfl) ?_
      refine r_iald hc hw (h := 67) (n := 24) (i := zj0) (fun _ => rfl) (by omega) (by omega) (by decide) d_MO_ofLetter_64 (v := .int (nI (to zj0))) (congrArg Value.int ((hM.2 (zj0) (by omega)).2.1)) ?_
      exact R_i hc hr hlocks (by refine congrArg Value.int ?_; unfold s_ofLetter; (try simp only [inN, rng, zj0_t, zj0_e, lsc]); (repeat' split) <;> first | (exfalso; omega) | contradiction | rfl) d_MO_ofLetter_65
    by_cases c_4 : (zp1).toInt = 2
    · refine lv_tableIn (tgt := 66) hx hb d_MO_ofLetter_11 (by omega) (by omega) (by rw [c_4] <;> rfl) (by decide) ?_
      refine lv_aload_n hx hb d_MO_ofLetter_66 rfl (lv_at hl 0 rfl) ?_
      refine gf_MO_37 hc hw d_MO_ofLetter_67 ?_
      refine lv_iload_n hx hb d_MO_ofLetter_70 rfl (lv_at hl 1 rfl) ?_
      refine r_iald hc hw (h := 68) (n := 24) (i := zj0) (fun _ => rfl) (by omega) (by omega) (by decide) d_MO_ofLetter_71 (v := .int (nI (hv zj0))) (congrArg Value.int ((hM.2 (zj0) (by omega)).2.2.1)) ?_
      exact R_i hc hr hlocks (by refine congrArg Value.int ?_; unfold s_ofLetter; (try simp only [inN, rng, zj0_t, zj0_e, lsc]); (repeat' split) <;> first | (exfalso; omega) | contradiction | rfl) d_MO_ofLetter_72
    by_cases c_5 : (zp1).toInt = 3
    · refine lv_tableIn (tgt := 73) hx hb d_MO_ofLetter_11 (by omega) (by omega) (by rw [c_5] <;> rfl) (by decide) ?_
      refine lv_aload_n hx hb d_MO_ofLetter_73 rfl (lv_at hl 0 rfl) ?_
      refine gf_MO_40 hc hw d_MO_ofLetter_74 ?_
      refine lv_iload_n hx hb d_MO_ofLetter_77 rfl (lv_at hl 1 rfl) ?_
      refine r_iald hc hw (h := 69) (n := 24) (i := zj0) (fun _ => rfl) (by omega) (by omega) (by decide) d_MO_ofLetter_78 (v := .int (nI (dy zj0))) (congrArg Value.int ((hM.2 (zj0) (by omega)).2.2.2.1)) ?_
      exact R_i hc hr hlocks (by refine congrArg Value.int ?_; unfold s_ofLetter; (try simp only [inN, rng, zj0_t, zj0_e, lsc]); (repeat' split) <;> first | (exfalso; omega) | contradiction | rfl) d_MO_ofLetter_79
    by_cases c_6 : (zp1).toInt = 4
    · refine lv_tableIn (tgt := 80) hx hb d_MO_ofLetter_11 (by omega) (by omega) (by rw [c_6] <;> rfl) (by decide) ?_
      refine lv_aload_n hx hb d_MO_ofLetter_80 rfl (lv_at hl 0 rfl) ?_
      refine gf_MO_43 hc hw d_MO_ofLetter_81 ?_
      refine lv_iload_n hx hb d_MO_ofLetter_84 rfl (lv_at hl 1 rfl) ?_
      refine r_iald hc hw (h := 70) (n := 24) (i := zj0) (fun _ => rfl) (by omega) (by omega) (by decide) d_MO_ofLetter_85 (v := .int (oI (an zj0))) (congrArg Value.int ((hM.2 (zj0) (by omega)).2.2.2.2.1)) ?_
      exact R_i hc hr hlocks (by refine congrArg Value.int ?_; unfold s_ofLetter; (try simp only [inN, rng, zj0_t, zj0_e, lsc]); (repeat' split) <;> first | (exfalso; omega) | contradiction | rfl) d_MO_ofLetter_86
    by_cases c_7 : (zp1).toInt = 5
    · refine lv_tableIn (tgt := 87) hx hb d_MO_ofLetter_11 (by omega) (by omega) (by rw [c_7] <;> rfl) (by decide) ?_
      refine lv_aload_n hx hb d_MO_ofLetter_87 rfl (lv_at hl 0 rfl) ?_
      refine gf_MO_46 hc hw d_MO_ofLetter_88 ?_
      refine lv_iload_n hx hb d_MO_ofLetter_91 rfl (lv_at hl 1 rfl) ?_
      refine r_iald hc hw (h := 71) (n := 24) (i := zj0) (fun _ => rfl) (by omega) (by omega) (by decide) d_MO_ofLetter_92 (v := .int (oI (af zj0))) (congrArg Value.int ((hM.2 (zj0) (by omega)).2.2.2.2.2)) ?_
      exact R_i hc hr hlocks (by refine congrArg Value.int ?_; unfold s_ofLetter; (try simp only [inN, rng, zj0_t, zj0_e, lsc]); (repeat' split) <;> first | (exfalso; omega) | contradiction | rfl) d_MO_ofLetter_93
    by_cases c_8 : (zp1).toInt = 6
    · refine lv_tableIn (tgt := 94) hx hb d_MO_ofLetter_11 (by omega) (by omega) (by rw [c_8] <;> rfl) (by decide) ?_
      refine lv_aload_n hx hb d_MO_ofLetter_94 rfl (lv_at hl 0 rfl) ?_
      refine lv_iload_n hx hb d_MO_ofLetter_95 rfl (lv_at hl 1 rfl) ?_
      refine kRV hc hw lk_MO_133 (As := [.int (nI zj0)]) (rest := []) (c_MO_scaleOf l D g _ pc cn fr to hv dy an af hI hM hpc6 hK (zj0) (by omega)) (rc_MO hw) ⟨Nat.le_of_ble_eq_true rfl, Nat.le_of_ble_eq_true rfl⟩ ⟨Nat.le_refl _, Nat.le_refl _⟩ rfl hl rfl (Nat.le_of_ble_eq_true rfl) d_MO_ofLetter_96 ?_
      exact R_i hc hr hlocks (by refine congrArg Value.int ?_; unfold s_ofLetter; (try simp only [inN, rng, zj0_t, zj0_e, lsc]); (repeat' split) <;> first | (exfalso; omega) | contradiction | rfl) d_MO_ofLetter_99
    have hout : (zp1).toInt < 0 ∨ 6 < (zp1).toInt := by omega
    refine lv_tableOut (tgt := 100) hx hb d_MO_ofLetter_11 hout (by decide) ?_
    refine lv_bipush (v := (-2)) hx hb d_MO_ofLetter_100 (by decide) ?_
    exact R_i hc hr hlocks (by refine congrArg Value.int ?_; unfold s_ofLetter; (try simp only [inN, rng, zj0_t, zj0_e, lsc]); (repeat' split) <;> first | (exfalso; omega) | contradiction | rfl) d_MO_ofLetter_102
  · try unfold inN at c_1
    refine lv_iconst (v := (-1)) hx hb d_MO_ofLetter_8 (by decide) ?_
    exact R_i hc hr hlocks (by refine congrArg Value.int ?_; unfold s_ofLetter; (try simp only [inN, rng, lsc]); (repeat' split) <;> first | (exfalso; omega) | contradiction | rfl) d_MO_ofLetter_9
set_option maxHeartbeats 4000000 in
theorem c_MO_paid (l : Launch) (D : va_G) (g : wG) (F : wF) (pc : Nat) (lf : Nat → Nat) (lw : Nat) (cn : Nat) (fr to hv dy : Nat → Nat) (an af : Nat → Option Nat) (ln : Nat → Option Nat) (sz : Nat → Nat) (ce : Nat → Nat → Int32) (tr ft : Int32) (hG : GI g (pc, lf) lw (cn, fr, to, hv, dy, an, af) (ln, sz, ce)) (hMI : MI g F (pc, lf) lw (cn, fr, to, hv, dy, an, af) (ln, sz, ce) tr ft) (zp0 zp1 : Int32) : CR l y_MO_paid b_MO_paid 3 (Option.some Jvm.ClassFile.FieldType.int) 5 D g F [.ref (wad g 58), .int zp0, .int zp1] (.int (s_paid (wK g) (pc, lf) lw (cn, fr, to, hv, dy, an, af) zp0 zp1)) := by
  refine CR.start rfl (Nat.le_of_ble_eq_true rfl) ?_
  intro p e s m args below meth c A ls hc hr hlocks hw hl
  have hl : lv_has ls 3 [(0, .ref (wad g 58)), (1, .int zp0), (2, .int zp1)] := hl
  have hx := hc.1
  have hb := hc.2.1
  obtain ⟨hpc6, hpcm, hm6, hpc0, hper⟩ : PI g pc lf := hG.1
  have hlw : lw ≤ 2 := hG.2.1
  have hI : LI pc cn fr to hv dy an af := hG.2.2.1
  have hcn := hI.1
  have hSI : SI ln sz := hG.2.2.2
  have hPM : PM g F pc lf := hMI.1
  have hM : LM F cn fr to hv dy an af := hMI.2.2.1
  have hSM : SM F ln sz ce := hMI.2.2.2.1
  have hK : ∀ q, q < pc → F 62 q = nI (wK g q) ∧ wK g q ≤ 2 := fun q hq => ⟨(hPM.2 q hq).1, (hper q hq).1⟩
  refine lv_aload_n hx hb d_MO_paid_0 rfl (lv_at hl 0 rfl) ?_
  refine lv_iload_n hx hb d_MO_paid_1 rfl (lv_at hl 1 rfl) ?_
  refine kRV hc hw lk_MO_116 (As := [.int zp0]) (rest := []) (c_MO_isPerson l D g _ pc (hPM.1) hpc6 (zp0)) (rc_MO hw) ⟨Nat.le_of_ble_eq_true rfl, Nat.le_of_ble_eq_true rfl⟩ ⟨Nat.le_refl _, Nat.le_refl _⟩ rfl hl rfl (Nat.le_of_ble_eq_true rfl) d_MO_paid_2 ?_
  refine b_if_ne (tgt := 10) hc d_MO_paid_5 (by decide) (fun c_1 => ?_) (fun c_1 => ?_)
  · obtain ⟨zj0, rfl, zj0_1⟩ := inN_nat c_1
    have zj0_e := nI_tI (j := zj0) (by omega)
    have zj0_t := tn_nI (j := zj0) (by omega)
    try unfold inN at c_1
    refine lv_iload_n hx hb d_MO_paid_10 rfl (lv_at hl 2 rfl) ?_
    refine kRS hc hw lk_MO_123 (As := [.int zp1]) (rest := []) (c_MO_isDay l D g _ (zp1)) ⟨Nat.le_of_ble_eq_true rfl, Nat.le_of_ble_eq_true rfl⟩ ⟨Nat.le_refl _, Nat.le_refl _⟩ rfl hl rfl (Nat.le_of_ble_eq_true rfl) d_MO_paid_11 ?_
    refine b_if_eq (tgt := 26) hc d_MO_paid_14 (by decide) (fun c_2 => ?_) (fun c_2 => ?_)
    · try unfold rng at c_2
      refine lv_bipush (v := (-2)) hx hb d_MO_paid_26 (by decide) ?_
      exact R_i hc hr hlocks (by refine congrArg Value.int ?_; unfold s_paid; (try simp only [inN, rng, zj0_t, zj0_e]); (repeat' split) <;> first | (exfalso; omega) | contradiction | rfl) d_MO_paid_28
    · obtain ⟨zj1, rfl, zj1_1, zj1_2⟩ := rng_nat c_2 (by decide)
      have zj1_e := nI_tI (j := zj1) (by omega)
      have zj1_t := tn_nI (j := zj1) (by omega)
      try unfold rng at c_2
      refine lv_aload_n hx hb d_MO_paid_17 rfl (lv_at hl 0 rfl) ?_
      refine lv_iload_n hx hb d_MO_paid_18 rfl (lv_at hl 1 rfl) ?_
      refine lv_iload_n hx hb d_MO_paid_19 rfl (lv_at hl 2 rfl) ?_
      refine kRV hc hw lk_MO_139 (As := [.int (nI zj0), .int (nI zj1)]) (rest := []) (c_MO_paidBy l D g _ pc cn fr to hv dy an af hI hM hpc6 hK lw (zj0) (zj1) hlw (hMI.2.1) (by omega) (by omega)) (rc_MO hw) ⟨Nat.le_of_ble_eq_true rfl, Nat.le_of_ble_eq_true rfl⟩ ⟨Nat.le_refl _, Nat.le_refl _⟩ rfl hl rfl (Nat.le_of_ble_eq_true rfl) d_MO_paid_20 ?_
      refine lv_goto (tgt := 28) hx hb d_MO_paid_23 (by decide) ?_
      exact R_i hc hr hlocks (by refine congrArg Value.int ?_; unfold s_paid; (try simp only [inN, rng, zj0_t, zj0_e, zj1_t, zj1_e]); (repeat' split) <;> first | (exfalso; omega) | contradiction | rfl) d_MO_paid_28
  · try unfold inN at c_1
    refine lv_iconst (v := (-1)) hx hb d_MO_paid_8 (by decide) ?_
    exact R_i hc hr hlocks (by refine congrArg Value.int ?_; unfold s_paid; (try simp only [inN, rng]); (repeat' split) <;> first | (exfalso; omega) | contradiction | rfl) d_MO_paid_9
set_option maxHeartbeats 4000000 in
theorem c_MO_owes (l : Launch) (D : va_G) (g : wG) (F : wF) (pc : Nat) (lf : Nat → Nat) (lw : Nat) (cn : Nat) (fr to hv dy : Nat → Nat) (an af : Nat → Option Nat) (ln : Nat → Option Nat) (sz : Nat → Nat) (ce : Nat → Nat → Int32) (tr ft : Int32) (hG : GI g (pc, lf) lw (cn, fr, to, hv, dy, an, af) (ln, sz, ce)) (hMI : MI g F (pc, lf) lw (cn, fr, to, hv, dy, an, af) (ln, sz, ce) tr ft) (zp0 zp1 zp2 : Int32) : CR l y_MO_owes b_MO_owes 4 (Option.some Jvm.ClassFile.FieldType.int) 5 D g F [.ref (wad g 58), .int zp0, .int zp1, .int zp2] (.int (s_owes (wK g) (pc, lf) (cn, fr, to, hv, dy, an, af) zp0 zp1 zp2)) := by
  refine CR.start rfl (Nat.le_of_ble_eq_true rfl) ?_
  intro p e s m args below meth c A ls hc hr hlocks hw hl
  have hl : lv_has ls 4 [(0, .ref (wad g 58)), (1, .int zp0), (2, .int zp1), (3, .int zp2)] := hl
  have hx := hc.1
  have hb := hc.2.1
  obtain ⟨hpc6, hpcm, hm6, hpc0, hper⟩ : PI g pc lf := hG.1
  have hlw : lw ≤ 2 := hG.2.1
  have hI : LI pc cn fr to hv dy an af := hG.2.2.1
  have hcn := hI.1
  have hSI : SI ln sz := hG.2.2.2
  have hPM : PM g F pc lf := hMI.1
  have hM : LM F cn fr to hv dy an af := hMI.2.2.1
  have hSM : SM F ln sz ce := hMI.2.2.2.1
  have hK : ∀ q, q < pc → F 62 q = nI (wK g q) ∧ wK g q ≤ 2 := fun q hq => ⟨(hPM.2 q hq).1, (hper q hq).1⟩
  refine lv_aload_n hx hb d_MO_owes_0 rfl (lv_at hl 0 rfl) ?_
  refine lv_iload_n hx hb d_MO_owes_1 rfl (lv_at hl 1 rfl) ?_
  refine kRV hc hw lk_MO_116 (As := [.int zp0]) (rest := []) (c_MO_isPerson l D g _ pc (hPM.1) hpc6 (zp0)) (rc_MO hw) ⟨Nat.le_of_ble_eq_true rfl, Nat.le_of_ble_eq_true rfl⟩ ⟨Nat.le_refl _, Nat.le_refl _⟩ rfl hl rfl (Nat.le_of_ble_eq_true rfl) d_MO_owes_2 ?_
  refine b_if_eq (tgt := 16) hc d_MO_owes_5 (by decide) (fun c_1 => ?_) (fun c_1 => ?_)
  · try unfold inN at c_1
    refine lv_iconst (v := (-1)) hx hb d_MO_owes_16 (by decide) ?_
    exact R_i hc hr hlocks (by refine congrArg Value.int ?_; unfold s_owes; (try simp only [inN, rng]); (repeat' split) <;> first | (exfalso; omega) | contradiction | rfl) d_MO_owes_17
  · obtain ⟨zj0, rfl, zj0_1⟩ := inN_nat c_1
    have zj0_e := nI_tI (j := zj0) (by omega)
    have zj0_t := tn_nI (j := zj0) (by omega)
    try unfold inN at c_1
    refine lv_aload_n hx hb d_MO_owes_8 rfl (lv_at hl 0 rfl) ?_
    refine lv_iload_n hx hb d_MO_owes_9 rfl (lv_at hl 2 rfl) ?_
    refine kRV hc hw lk_MO_116 (As := [.int zp1]) (rest := []) (c_MO_isPerson l D g _ pc (hPM.1) hpc6 (zp1)) (rc_MO hw) ⟨Nat.le_of_ble_eq_true rfl, Nat.le_of_ble_eq_true rfl⟩ ⟨Nat.le_refl _, Nat.le_refl _⟩ rfl hl rfl (Nat.le_of_ble_eq_true rfl) d_MO_owes_10 ?_
    refine b_if_ne (tgt := 18) hc d_MO_owes_13 (by decide) (fun c_2 => ?_) (fun c_2 => ?_)
    · obtain ⟨zj1, rfl, zj1_1⟩ := inN_nat c_2
      have zj1_e := nI_tI (j := zj1) (by omega)
      have zj1_t := tn_nI (j := zj1) (by omega)
      try unfold inN at c_2
      refine lv_iload_n hx hb d_MO_owes_18 rfl (lv_at hl 3 rfl) ?_
      refine kRS hc hw lk_MO_123 (As := [.int zp2]) (rest := []) (c_MO_isDay l D g _ (zp2)) ⟨Nat.le_of_ble_eq_true rfl, Nat.le_of_ble_eq_true rfl⟩ ⟨Nat.le_refl _, Nat.le_refl _⟩ rfl hl rfl (Nat.le_of_ble_eq_true rfl) d_MO_owes_19 ?_
      refine b_if_eq (tgt := 35) hc d_MO_owes_22 (by decide) (fun c_3 => ?_) (fun c_3 => ?_)
      · try unfold rng at c_3
        refine lv_bipush (v := (-2)) hx hb d_MO_owes_35 (by decide) ?_
        exact R_i hc hr hlocks (by refine congrArg Value.int ?_; unfold s_owes; (try simp only [inN, rng, zj0_t, zj0_e, zj1_t, zj1_e]); (repeat' split) <;> first | (exfalso; omega) | contradiction | rfl) d_MO_owes_37
      · obtain ⟨zj2, rfl, zj2_1, zj2_2⟩ := rng_nat c_3 (by decide)
        have zj2_e := nI_tI (j := zj2) (by omega)
        have zj2_t := tn_nI (j := zj2) (by omega)
        try unfold rng at c_3
        refine lv_aload_n hx hb d_MO_owes_25 rfl (lv_at hl 0 rfl) ?_
        refine lv_iload_n hx hb d_MO_owes_26 rfl (lv_at hl 1 rfl) ?_
        refine lv_iload_n hx hb d_MO_owes_27 rfl (lv_at hl 2 rfl) ?_
        refine lv_iload_n hx hb d_MO_owes_28 rfl (lv_at hl 3 rfl) ?_
        refine kRV hc hw lk_MO_142 (As := [.int (nI zj0), .int (nI zj1), .int (nI zj2)]) (rest := []) (c_MO_owed l D g _ pc cn fr to hv dy an af hI hM hpc6 hK (zj0) (zj1) (zj2) (by omega) (by omega) (by omega)) (rc_MO hw) ⟨Nat.le_of_ble_eq_true rfl, Nat.le_of_ble_eq_true rfl⟩ ⟨Nat.le_refl _, Nat.le_refl _⟩ rfl hl rfl (Nat.le_of_ble_eq_true rfl) d_MO_owes_29 ?_
        refine lv_goto (tgt := 37) hx hb d_MO_owes_32 (by decide) ?_
        exact R_i hc hr hlocks (by refine congrArg Value.int ?_; unfold s_owes; (try simp only [inN, rng, zj0_t, zj0_e, zj1_t, zj1_e, zj2_t, zj2_e]); (repeat' split) <;> first | (exfalso; omega) | contradiction | rfl) d_MO_owes_37
    · try unfold inN at c_2
      refine lv_iconst (v := (-1)) hx hb d_MO_owes_16 (by decide) ?_
      exact R_i hc hr hlocks (by refine congrArg Value.int ?_; unfold s_owes; (try simp only [inN, rng, zj0_t, zj0_e]); (repeat' split) <;> first | (exfalso; omega) | contradiction | rfl) d_MO_owes_17
set_option maxHeartbeats 4000000 in
theorem c_MO_net (l : Launch) (D : va_G) (g : wG) (F : wF) (pc : Nat) (lf : Nat → Nat) (lw : Nat) (cn : Nat) (fr to hv dy : Nat → Nat) (an af : Nat → Option Nat) (ln : Nat → Option Nat) (sz : Nat → Nat) (ce : Nat → Nat → Int32) (tr ft : Int32) (hG : GI g (pc, lf) lw (cn, fr, to, hv, dy, an, af) (ln, sz, ce)) (hMI : MI g F (pc, lf) lw (cn, fr, to, hv, dy, an, af) (ln, sz, ce) tr ft) (zp0 zp1 : Int32) : CR l y_MO_net b_MO_net 3 (Option.some Jvm.ClassFile.FieldType.int) 5 D g F [.ref (wad g 58), .int zp0, .int zp1] (.int (s_net (wK g) (pc, lf) (cn, fr, to, hv, dy, an, af) zp0 zp1)) := by
  refine CR.start rfl (Nat.le_of_ble_eq_true rfl) ?_
  intro p e s m args below meth c A ls hc hr hlocks hw hl
  have hl : lv_has ls 3 [(0, .ref (wad g 58)), (1, .int zp0), (2, .int zp1)] := hl
  have hx := hc.1
  have hb := hc.2.1
  obtain ⟨hpc6, hpcm, hm6, hpc0, hper⟩ : PI g pc lf := hG.1
  have hlw : lw ≤ 2 := hG.2.1
  have hI : LI pc cn fr to hv dy an af := hG.2.2.1
  have hcn := hI.1
  have hSI : SI ln sz := hG.2.2.2
  have hPM : PM g F pc lf := hMI.1
  have hM : LM F cn fr to hv dy an af := hMI.2.2.1
  have hSM : SM F ln sz ce := hMI.2.2.2.1
  have hK : ∀ q, q < pc → F 62 q = nI (wK g q) ∧ wK g q ≤ 2 := fun q hq => ⟨(hPM.2 q hq).1, (hper q hq).1⟩
  refine lv_aload_n hx hb d_MO_net_0 rfl (lv_at hl 0 rfl) ?_
  refine lv_iload_n hx hb d_MO_net_1 rfl (lv_at hl 1 rfl) ?_
  refine kRV hc hw lk_MO_116 (As := [.int zp0]) (rest := []) (c_MO_isPerson l D g _ pc (hPM.1) hpc6 (zp0)) (rc_MO hw) ⟨Nat.le_of_ble_eq_true rfl, Nat.le_of_ble_eq_true rfl⟩ ⟨Nat.le_refl _, Nat.le_refl _⟩ rfl hl rfl (Nat.le_of_ble_eq_true rfl) d_MO_net_2 ?_
  refine b_if_ne (tgt := 10) hc d_MO_net_5 (by decide) (fun c_1 => ?_) (fun c_1 => ?_)
  · obtain ⟨zj0, rfl, zj0_1⟩ := inN_nat c_1
    have zj0_e := nI_tI (j := zj0) (by omega)
    have zj0_t := tn_nI (j := zj0) (by omega)
    try unfold inN at c_1
    refine lv_iload_n hx hb d_MO_net_10 rfl (lv_at hl 2 rfl) ?_
    refine kRS hc hw lk_MO_123 (As := [.int zp1]) (rest := []) (c_MO_isDay l D g _ (zp1)) ⟨Nat.le_of_ble_eq_true rfl, Nat.le_of_ble_eq_true rfl⟩ ⟨Nat.le_refl _, Nat.le_refl _⟩ rfl hl rfl (Nat.le_of_ble_eq_true rfl) d_MO_net_11 ?_
    refine b_if_eq (tgt := 29) hc d_MO_net_14 (by decide) (fun c_2 => ?_) (fun c_2 => ?_)
    · try unfold rng at c_2
      refine lv_bipush (v := (-2)) hx hb d_MO_net_29 (by decide) ?_
      exact R_i hc hr hlocks (by refine congrArg Value.int ?_; unfold s_net; (try simp only [inN, rng, zj0_t, zj0_e]); (repeat' split) <;> first | (exfalso; omega) | contradiction | rfl) d_MO_net_31
    · obtain ⟨zj1, rfl, zj1_1, zj1_2⟩ := rng_nat c_2 (by decide)
      have zj1_e := nI_tI (j := zj1) (by omega)
      have zj1_t := tn_nI (j := zj1) (by omega)
      try unfold rng at c_2
      refine lv_aload_n hx hb d_MO_net_17 rfl (lv_at hl 0 rfl) ?_
      refine lv_iload_n hx hb d_MO_net_18 rfl (lv_at hl 1 rfl) ?_
      refine lv_iload_n hx hb d_MO_net_19 rfl (lv_at hl 2 rfl) ?_
      refine kRV hc hw lk_MO_146 (As := [.int (nI zj0), .int (nI zj1)]) (rest := []) (c_MO_netOf l D g _ pc cn fr to hv dy an af hI hM hpc6 hK (hPM.1) (zj0) (zj1) (by omega) (by omega)) (rc_MO hw) ⟨Nat.le_of_ble_eq_true rfl, Nat.le_of_ble_eq_true rfl⟩ ⟨Nat.le_refl _, Nat.le_refl _⟩ rfl hl rfl (Nat.le_of_ble_eq_true rfl) d_MO_net_20 ?_
      refine lv_ldc hx hb hc.2.2.2.1 (hc.2.2.2.2 _ g_810) d_MO_net_23 ?_
      rw [show (1000000 : Int32) = nI 1000000 from by decide +kernel]
      refine lv_iadd hx hb d_MO_net_25 ?_
      refine lv_goto (tgt := 31) hx hb d_MO_net_26 (by decide) ?_
      exact R_i hc hr hlocks (by refine congrArg Value.int ?_; unfold s_net; (try simp only [inN, rng, zj0_t, zj0_e, zj1_t, zj1_e]); (repeat' split) <;> first | (exfalso; omega) | contradiction | rfl) d_MO_net_31
  · try unfold inN at c_1
    refine lv_iconst (v := (-1)) hx hb d_MO_net_8 (by decide) ?_
    exact R_i hc hr hlocks (by refine congrArg Value.int ?_; unfold s_net; (try simp only [inN, rng]); (repeat' split) <;> first | (exfalso; omega) | contradiction | rfl) d_MO_net_9
set_option maxHeartbeats 4000000 in
theorem c_MO_trace (l : Launch) (D : va_G) (g : wG) (F : wF) (pc : Nat) (lf : Nat → Nat) (lw : Nat) (cn : Nat) (fr to hv dy : Nat → Nat) (an af : Nat → Option Nat) (ln : Nat → Option Nat) (sz : Nat → Nat) (ce : Nat → Nat → Int32) (tr ft : Int32) (hG : GI g (pc, lf) lw (cn, fr, to, hv, dy, an, af) (ln, sz, ce)) (hMI : MI g F (pc, lf) lw (cn, fr, to, hv, dy, an, af) (ln, sz, ce) tr ft) : CR l y_MO_trace b_MO_trace 1 (Option.some Jvm.ClassFile.FieldType.int) 3 D g F [.ref (wad g 58)] (.int tr) := by
  refine CR.start rfl (Nat.le_of_ble_eq_true rfl) ?_
  intro p e s m args below meth c A ls hc hr hlocks hw hl
  have hl : lv_has ls 1 [(0, .ref (wad g 58))] := hl
  have hx := hc.1
  have hb := hc.2.1
  obtain ⟨hpc6, hpcm, hm6, hpc0, hper⟩ : PI g pc lf := hG.1
  have hlw : lw ≤ 2 := hG.2.1
  have hI : LI pc cn fr to hv dy an af := hG.2.2.1
  have hcn := hI.1
  have hSI : SI ln sz := hG.2.2.2
  have hPM : PM g F pc lf := hMI.1
  have hM : LM F cn fr to hv dy an af := hMI.2.2.1
  have hSM : SM F ln sz ce := hMI.2.2.2.1
  have hK : ∀ q, q < pc → F 62 q = nI (wK g q) ∧ wK g q ≤ 2 := fun q hq => ⟨(hPM.2 q hq).1, (hper q hq).1⟩
  refine lv_aload_n hx hb d_MO_trace_0 rfl (lv_at hl 0 rfl) ?_
  refine gf_MO_190 hc hw d_MO_trace_1 (v := .int tr) (congrArg Value.int (hMI.2.2.2.2.1)) ?_
  exact R_i hc hr hlocks (rfl) d_MO_trace_4
set_option maxHeartbeats 4000000 in
theorem c_MO_fault (l : Launch) (D : va_G) (g : wG) (F : wF) (pc : Nat) (lf : Nat → Nat) (lw : Nat) (cn : Nat) (fr to hv dy : Nat → Nat) (an af : Nat → Option Nat) (ln : Nat → Option Nat) (sz : Nat → Nat) (ce : Nat → Nat → Int32) (tr ft : Int32) (hG : GI g (pc, lf) lw (cn, fr, to, hv, dy, an, af) (ln, sz, ce)) (hMI : MI g F (pc, lf) lw (cn, fr, to, hv, dy, an, af) (ln, sz, ce) tr ft) : CR l y_MO_fault b_MO_fault 1 (Option.some Jvm.ClassFile.FieldType.int) 3 D g F [.ref (wad g 58)] (.int ft) := by
  refine CR.start rfl (Nat.le_of_ble_eq_true rfl) ?_
  intro p e s m args below meth c A ls hc hr hlocks hw hl
  have hl : lv_has ls 1 [(0, .ref (wad g 58))] := hl
  have hx := hc.1
  have hb := hc.2.1
  obtain ⟨hpc6, hpcm, hm6, hpc0, hper⟩ : PI g pc lf := hG.1
  have hlw : lw ≤ 2 := hG.2.1
  have hI : LI pc cn fr to hv dy an af := hG.2.2.1
  have hcn := hI.1
  have hSI : SI ln sz := hG.2.2.2
  have hPM : PM g F pc lf := hMI.1
  have hM : LM F cn fr to hv dy an af := hMI.2.2.1
  have hSM : SM F ln sz ce := hMI.2.2.2.1
  have hK : ∀ q, q < pc → F 62 q = nI (wK g q) ∧ wK g q ≤ 2 := fun q hq => ⟨(hPM.2 q hq).1, (hper q hq).1⟩
  refine lv_aload_n hx hb d_MO_fault_0 rfl (lv_at hl 0 rfl) ?_
  refine gf_MO_70 hc hw d_MO_fault_1 (v := .int ft) (congrArg Value.int (hMI.2.2.2.2.2)) ?_
  exact R_i hc hr hlocks (rfl) d_MO_fault_4
set_option maxHeartbeats 4000000 in
theorem c_MO_many (l : Launch) (D : va_G) (g : wG) (F : wF) (pc : Nat) (lf : Nat → Nat) (lw : Nat) (cn : Nat) (fr to hv dy : Nat → Nat) (an af : Nat → Option Nat) (ln : Nat → Option Nat) (sz : Nat → Nat) (ce : Nat → Nat → Int32) (tr ft : Int32) (hG : GI g (pc, lf) lw (cn, fr, to, hv, dy, an, af) (ln, sz, ce)) (hMI : MI g F (pc, lf) lw (cn, fr, to, hv, dy, an, af) (ln, sz, ce) tr ft) (zp0 : Int32) : CR l y_MO_many b_MO_many 2 (Option.some Jvm.ClassFile.FieldType.int) 5 D g F [.ref (wad g 58), .int zp0] (.int (s_many (pc, lf) lw (cn, fr, to, hv, dy, an, af) zp0)) := by
  refine CR.start rfl (Nat.le_of_ble_eq_true rfl) ?_
  intro p e s m args below meth c A ls hc hr hlocks hw hl
  have hl : lv_has ls 2 [(0, .ref (wad g 58)), (1, .int zp0)] := hl
  have hx := hc.1
  have hb := hc.2.1
  obtain ⟨hpc6, hpcm, hm6, hpc0, hper⟩ : PI g pc lf := hG.1
  have hlw : lw ≤ 2 := hG.2.1
  have hI : LI pc cn fr to hv dy an af := hG.2.2.1
  have hcn := hI.1
  have hSI : SI ln sz := hG.2.2.2
  have hPM : PM g F pc lf := hMI.1
  have hM : LM F cn fr to hv dy an af := hMI.2.2.1
  have hSM : SM F ln sz ce := hMI.2.2.2.1
  have hK : ∀ q, q < pc → F 62 q = nI (wK g q) ∧ wK g q ≤ 2 := fun q hq => ⟨(hPM.2 q hq).1, (hper q hq).1⟩
  refine lv_iload_n hx hb d_MO_many_0 rfl (lv_at hl 1 rfl) ?_
  refine u_if_ne (tgt := 11) (X := (zp0).toInt) hc (rfl) d_MO_many_1 (by decide) (fun c_1 => ?_) (fun c_1 => ?_)
  · refine lv_iload_n hx hb d_MO_many_11 rfl (lv_at hl 1 rfl) ?_
    refine lv_iconst (v := nI 1) hx hb d_MO_many_12 (by decide) ?_
    refine u_icmp_ne (tgt := 23) (X := (zp0).toInt) (Y := 1) hc (rfl) (by decide) d_MO_many_13 (by decide) (fun c_2 => ?_) (fun c_2 => ?_)
    · refine lv_iload_n hx hb d_MO_many_23 rfl (lv_at hl 1 rfl) ?_
      refine lv_iconst (v := nI 2) hx hb d_MO_many_24 (by decide) ?_
      refine u_icmp_ne (tgt := 35) (X := (zp0).toInt) (Y := 2) hc (rfl) (by decide) d_MO_many_25 (by decide) (fun c_3 => ?_) (fun c_3 => ?_)
      · refine lv_bipush (v := (-2)) hx hb d_MO_many_35 (by decide) ?_
        exact R_i hc hr hlocks (by refine congrArg Value.int ?_; unfold s_many; (try simp only [inN, rng]); (repeat' split) <;> first | (exfalso; omega) | contradiction | rfl) d_MO_many_37
      · refine lv_aload_n hx hb d_MO_many_28 rfl (lv_at hl 0 rfl) ?_
        refine gf_MO_107 hc hw d_MO_many_29 (v := .int (nI lw)) (congrArg Value.int (hMI.2.1)) ?_
        refine lv_goto (tgt := 37) hx hb d_MO_many_32 (by decide) ?_
        exact R_i hc hr hlocks (by refine congrArg Value.int ?_; unfold s_many; (try simp only [inN, rng]); (repeat' split) <;> first | (exfalso; omega) | contradiction | rfl) d_MO_many_37
    · refine lv_aload_n hx hb d_MO_many_16 rfl (lv_at hl 0 rfl) ?_
      refine gf_MO_110 hc hw d_MO_many_17 (v := .int (nI cn)) (congrArg Value.int (hM.1)) ?_
      refine lv_goto (tgt := 37) hx hb d_MO_many_20 (by decide) ?_
      exact R_i hc hr hlocks (by refine congrArg Value.int ?_; unfold s_many; (try simp only [inN, rng]); (repeat' split) <;> first | (exfalso; omega) | contradiction | rfl) d_MO_many_37
  · refine lv_aload_n hx hb d_MO_many_4 rfl (lv_at hl 0 rfl) ?_
    refine gf_MO_80 hc hw d_MO_many_5 (v := .int (nI pc)) (congrArg Value.int (hPM.1)) ?_
    refine lv_goto (tgt := 37) hx hb d_MO_many_8 (by decide) ?_
    exact R_i hc hr hlocks (by refine congrArg Value.int ?_; unfold s_many; (try simp only [inN, rng]); (repeat' split) <;> first | (exfalso; omega) | contradiction | rfl) d_MO_many_37
set_option maxHeartbeats 4000000 in
theorem c_MO_law (l : Launch) (D : va_G) (g : wG) (F : wF) (pc : Nat) (lf : Nat → Nat) (lw : Nat) (cn : Nat) (fr to hv dy : Nat → Nat) (an af : Nat → Option Nat) (ln : Nat → Option Nat) (sz : Nat → Nat) (ce : Nat → Nat → Int32) (tr ft : Int32) (hG : GI g (pc, lf) lw (cn, fr, to, hv, dy, an, af) (ln, sz, ce)) (hMI : MI g F (pc, lf) lw (cn, fr, to, hv, dy, an, af) (ln, sz, ce) tr ft) (zp0 : Int32) : CW l y_MO_law b_MO_law 3 (Option.some Jvm.ClassFile.FieldType.int) 5 0 0 D g F [.ref (wad g 58), .int zp0] (fun v g2 u => v = some (.int (s_law (pc, lf) lw zp0).1) ∧ g = g2 ∧ MI g u (pc, lf) (s_law (pc, lf) lw zp0).2 (cn, fr, to, hv, dy, an, af) (ln, sz, ce) tr ft ∧ FrO 58 78 F u) := by
  refine CW.start rfl (Nat.le_of_ble_eq_true rfl) ?_
  intro p e s m args below meth c A ls hc hr hlocks hw hl
  have hl : lv_has ls 3 [(0, .ref (wad g 58)), (1, .int zp0)] := hl
  have hx := hc.1
  have hb := hc.2.1
  obtain ⟨hpc6, hpcm, hm6, hpc0, hper⟩ : PI g pc lf := hG.1
  have hlw : lw ≤ 2 := hG.2.1
  have hI : LI pc cn fr to hv dy an af := hG.2.2.1
  have hcn := hI.1
  have hSI : SI ln sz := hG.2.2.2
  have hPM : PM g F pc lf := hMI.1
  have hM : LM F cn fr to hv dy an af := hMI.2.2.1
  have hSM : SM F ln sz ce := hMI.2.2.2.1
  have hK : ∀ q, q < pc → F 62 q = nI (wK g q) ∧ wK g q ≤ 2 := fun q hq => ⟨(hPM.2 q hq).1, (hper q hq).1⟩
  refine lv_iload_n hx hb d_MO_law_0 rfl (lv_at hl 1 rfl) ?_
  refine lv_iconst (v := nI 0) hx hb d_MO_law_1 (by decide) ?_
  refine lv_iconst (v := nI 2) hx hb d_MO_law_2 (by decide) ?_
  refine kRS hc hw lk_MO_76 (As := [.int zp0, .int (nI 0), .int (nI 2)]) (rest := []) (c_MO_within l D g _ (zp0) (nI 0) (nI 2) 0 2 (by decide) (by decide)) ⟨Nat.le_of_ble_eq_true rfl, Nat.le_of_ble_eq_true rfl⟩ ⟨Nat.le_refl _, Nat.le_refl _⟩ rfl hl rfl (Nat.le_of_ble_eq_true rfl) d_MO_law_3 ?_
  refine b_if_ne (tgt := 12) hc d_MO_law_6 (by decide) (fun c_1 => ?_) (fun c_1 => ?_)
  · obtain ⟨zj0, rfl, zj0_1, zj0_2⟩ := rng_nat c_1 (by decide)
    have zj0_e := nI_tI (j := zj0) (by omega)
    have zj0_t := tn_nI (j := zj0) (by omega)
    try unfold rng at c_1
    refine lv_aload_n hx hb d_MO_law_12 rfl (lv_at hl 0 rfl) ?_
    refine gf_MO_80 hc hw d_MO_law_13 (v := .int (nI pc)) (congrArg Value.int (hPM.1)) ?_
    refine q_if_ne (tgt := 22) hc (by omega) d_MO_law_16 (by decide) (fun c_2 => ?_) (fun c_2 => ?_)
    · refine lv_aload_n hx hb d_MO_law_22 rfl (lv_at hl 0 rfl) ?_
      refine gf_MO_107 hc hw d_MO_law_23 (v := .int (nI lw)) (congrArg Value.int (hMI.2.1)) ?_
      refine lv_istore_n (lv' := [(2, .int (nI lw)), (0, .ref (wad g 58)), (1, .int (nI zj0))]) hx hb d_MO_law_26 rfl hl (by decide) rfl (fun ls hl => ?_)
      refine lv_aload_n hx hb d_MO_law_27 rfl (lv_at hl 1 rfl) ?_
      refine lv_iload_n hx hb d_MO_law_28 rfl (lv_at hl 2 rfl) ?_
      refine pf_MO_107 hc hw d_MO_law_29 (fun H locs hw => ?_)
      refine lv_iload_n hx hb d_MO_law_32 rfl (lv_at hl 0 rfl) ?_
      exact W_i hc hw hr hlocks (by refine ⟨congrArg (fun z => some (Value.int z)) ?_, rfl, ?_, (by repeat (first | exact FrO.rf _ _ _ | refine FrO.up ?_ (by omega) (by omega)))⟩; (unfold s_law; (try simp only [inN, rng, zj0_t, zj0_e]); (repeat' split) <;> first | (exfalso; omega) | contradiction | rfl); (unfold s_law; (try simp only [inN, rng, zj0_t, zj0_e]); (repeat' split) <;> first | (exfalso; omega) | contradiction | exact MI_lw hMI _)) d_MO_law_33
    · refine lv_bipush (v := (-3)) hx hb d_MO_law_19 (by decide) ?_
      exact W_i hc hw hr hlocks (by refine ⟨congrArg (fun z => some (Value.int z)) ?_, rfl, ?_, (by repeat (first | exact FrO.rf _ _ _ | refine FrO.up ?_ (by omega) (by omega)))⟩; (unfold s_law; (try simp only [inN, rng, zj0_t, zj0_e]); (repeat' split) <;> first | (exfalso; omega) | contradiction | rfl); (unfold s_law; (try simp only [inN, rng, zj0_t, zj0_e]); (repeat' split) <;> first | (exfalso; omega) | contradiction | exact hMI)) d_MO_law_21
  · try unfold rng at c_1
    refine lv_bipush (v := (-2)) hx hb d_MO_law_9 (by decide) ?_
    exact W_i hc hw hr hlocks (by refine ⟨congrArg (fun z => some (Value.int z)) ?_, rfl, ?_, (by repeat (first | exact FrO.rf _ _ _ | refine FrO.up ?_ (by omega) (by omega)))⟩; (unfold s_law; (try simp only [inN, rng]); (repeat' split) <;> first | (exfalso; omega) | contradiction | rfl); (unfold s_law; (try simp only [inN, rng]); (repeat' split) <;> first | (exfalso; omega) | contradiction | exact hMI)) d_MO_law_11
set_option maxHeartbeats 4000000 in
theorem c_MO_send (l : Launch) (D : va_G) (g : wG) (F : wF) (pc : Nat) (lf : Nat → Nat) (lw : Nat) (cn : Nat) (fr to hv dy : Nat → Nat) (an af : Nat → Option Nat) (ln : Nat → Option Nat) (sz : Nat → Nat) (ce : Nat → Nat → Int32) (tr ft : Int32) (hG : GI g (pc, lf) lw (cn, fr, to, hv, dy, an, af) (ln, sz, ce)) (hMI : MI g F (pc, lf) lw (cn, fr, to, hv, dy, an, af) (ln, sz, ce) tr ft) (zp0 zp1 zp2 zp3 : Int32) : CW l y_MO_send b_MO_send 5 (Option.some Jvm.ClassFile.FieldType.int) 5 0 0 D g F [.ref (wad g 58), .int zp0, .int zp1, .int zp2, .int zp3] (fun v g2 u => v = some (.int (s_send (pc, lf) (cn, fr, to, hv, dy, an, af) zp0 zp1 zp2 zp3).1) ∧ g = g2 ∧ MI g u (pc, lf) lw (s_send (pc, lf) (cn, fr, to, hv, dy, an, af) zp0 zp1 zp2 zp3).2 (ln, sz, ce) tr ft ∧ FrO 58 78 F u) := by
  refine CW.start rfl (Nat.le_of_ble_eq_true rfl) ?_
  intro p e s m args below meth c A ls hc hr hlocks hw hl
  have hl : lv_has ls 5 [(0, .ref (wad g 58)), (1, .int zp0), (2, .int zp1), (3, .int zp2), (4, .int zp3)] := hl
  have hx := hc.1
  have hb := hc.2.1
  obtain ⟨hpc6, hpcm, hm6, hpc0, hper⟩ : PI g pc lf := hG.1
  have hlw : lw ≤ 2 := hG.2.1
  have hI : LI pc cn fr to hv dy an af := hG.2.2.1
  have hcn := hI.1
  have hSI : SI ln sz := hG.2.2.2
  have hPM : PM g F pc lf := hMI.1
  have hM : LM F cn fr to hv dy an af := hMI.2.2.1
  have hSM : SM F ln sz ce := hMI.2.2.2.1
  have hK : ∀ q, q < pc → F 62 q = nI (wK g q) ∧ wK g q ≤ 2 := fun q hq => ⟨(hPM.2 q hq).1, (hper q hq).1⟩
  refine lv_aload_n hx hb d_MO_send_0 rfl (lv_at hl 0 rfl) ?_
  refine lv_iload_n hx hb d_MO_send_1 rfl (lv_at hl 1 rfl) ?_
  refine kRV hc hw lk_MO_116 (As := [.int zp0]) (rest := []) (c_MO_isPerson l D g _ pc (hPM.1) hpc6 (zp0)) (rc_MO hw) ⟨Nat.le_of_ble_eq_true rfl, Nat.le_of_ble_eq_true rfl⟩ ⟨Nat.le_refl _, Nat.le_refl _⟩ rfl hl rfl (Nat.le_of_ble_eq_true rfl) d_MO_send_2 ?_
  refine b_if_eq (tgt := 21) hc d_MO_send_5 (by decide) (fun c_1 => ?_) (fun c_1 => ?_)
  · try unfold inN at c_1
    refine lv_iconst (v := (-1)) hx hb d_MO_send_21 (by decide) ?_
    exact W_i hc hw hr hlocks (by refine ⟨congrArg (fun z => some (Value.int z)) ?_, rfl, ?_, (by repeat (first | exact FrO.rf _ _ _ | refine FrO.up ?_ (by omega) (by omega)))⟩; (unfold s_send; (try simp only [inN, rng]); (repeat' split) <;> first | (exfalso; omega) | contradiction | rfl); (unfold s_send; (try simp only [inN, rng]); (repeat' split) <;> first | (exfalso; omega) | contradiction | exact hMI)) d_MO_send_22
  · obtain ⟨zj0, rfl, zj0_1⟩ := inN_nat c_1
    have zj0_e := nI_tI (j := zj0) (by omega)
    have zj0_t := tn_nI (j := zj0) (by omega)
    try unfold inN at c_1
    refine lv_aload_n hx hb d_MO_send_8 rfl (lv_at hl 0 rfl) ?_
    refine lv_iload_n hx hb d_MO_send_9 rfl (lv_at hl 2 rfl) ?_
    refine kRV hc hw lk_MO_116 (As := [.int zp1]) (rest := []) (c_MO_isPerson l D g _ pc (hPM.1) hpc6 (zp1)) (rc_MO hw) ⟨Nat.le_of_ble_eq_true rfl, Nat.le_of_ble_eq_true rfl⟩ ⟨Nat.le_refl _, Nat.le_refl _⟩ rfl hl rfl (Nat.le_of_ble_eq_true rfl) d_MO_send_10 ?_
    refine b_if_eq (tgt := 21) hc d_MO_send_13 (by decide) (fun c_2 => ?_) (fun c_2 => ?_)
    · try unfold inN at c_2
      refine lv_iconst (v := (-1)) hx hb d_MO_send_21 (by decide) ?_
      exact W_i hc hw hr hlocks (by refine ⟨congrArg (fun z => some (Value.int z)) ?_, rfl, ?_, (by repeat (first | exact FrO.rf _ _ _ | refine FrO.up ?_ (by omega) (by omega)))⟩; (unfold s_send; (try simp only [inN, rng, zj0_t, zj0_e]); (repeat' split) <;> first | (exfalso; omega) | contradiction | rfl); (unfold s_send; (try simp only [inN, rng, zj0_t, zj0_e]); (repeat' split) <;> first | (exfalso; omega) | contradiction | exact hMI)) d_MO_send_22
    · obtain ⟨zj1, rfl, zj1_1⟩ := inN_nat c_2
      have zj1_e := nI_tI (j := zj1) (by omega)
      have zj1_t := tn_nI (j := zj1) (by omega)
      try unfold inN at c_2
      refine lv_iload_n hx hb d_MO_send_16 rfl (lv_at hl 1 rfl) ?_
      refine lv_iload_n hx hb d_MO_send_17 rfl (lv_at hl 2 rfl) ?_
      refine q_icmp_ne (tgt := 23) hc (by omega) (by omega) d_MO_send_18 (by decide) (fun c_3 => ?_) (fun c_3 => ?_)
      · refine lv_iload_n hx hb d_MO_send_23 rfl (lv_at hl 3 rfl) ?_
        refine lv_iconst (v := nI 1) hx hb d_MO_send_24 (by decide) ?_
        refine lv_bipush (v := nI 99) hx hb d_MO_send_25 (by decide) ?_
        refine kRS hc hw lk_MO_76 (As := [.int zp2, .int (nI 1), .int (nI 99)]) (rest := []) (c_MO_within l D g _ (zp2) (nI 1) (nI 99) 1 99 (by decide) (by decide)) ⟨Nat.le_of_ble_eq_true rfl, Nat.le_of_ble_eq_true rfl⟩ ⟨Nat.le_refl _, Nat.le_refl _⟩ rfl hl rfl (Nat.le_of_ble_eq_true rfl) d_MO_send_27 ?_
        refine b_if_eq (tgt := 41) hc d_MO_send_30 (by decide) (fun c_4 => ?_) (fun c_4 => ?_)
        · try unfold rng at c_4
          refine lv_bipush (v := (-2)) hx hb d_MO_send_41 (by decide) ?_
          exact W_i hc hw hr hlocks (by refine ⟨congrArg (fun z => some (Value.int z)) ?_, rfl, ?_, (by repeat (first | exact FrO.rf _ _ _ | refine FrO.up ?_ (by omega) (by omega)))⟩; (unfold s_send; (try simp only [inN, rng, zj0_t, zj0_e, zj1_t, zj1_e]); (repeat' split) <;> first | (exfalso; omega) | contradiction | rfl); (unfold s_send; (try simp only [inN, rng, zj0_t, zj0_e, zj1_t, zj1_e]); (repeat' split) <;> first | (exfalso; omega) | contradiction | exact hMI)) d_MO_send_43
        · obtain ⟨zj2, rfl, zj2_1, zj2_2⟩ := rng_nat c_4 (by decide)
          have zj2_e := nI_tI (j := zj2) (by omega)
          have zj2_t := tn_nI (j := zj2) (by omega)
          try unfold rng at c_4
          refine lv_iload hx hb d_MO_send_33 (lv_at hl 4 rfl) ?_
          refine kRS hc hw lk_MO_123 (As := [.int zp3]) (rest := []) (c_MO_isDay l D g _ (zp3)) ⟨Nat.le_of_ble_eq_true rfl, Nat.le_of_ble_eq_true rfl⟩ ⟨Nat.le_refl _, Nat.le_refl _⟩ rfl hl rfl (Nat.le_of_ble_eq_true rfl) d_MO_send_35 ?_
          refine b_if_ne (tgt := 44) hc d_MO_send_38 (by decide) (fun c_5 => ?_) (fun c_5 => ?_)
          · obtain ⟨zj3, rfl, zj3_1, zj3_2⟩ := rng_nat c_5 (by decide)
            have zj3_e := nI_tI (j := zj3) (by omega)
            have zj3_t := tn_nI (j := zj3) (by omega)
            try unfold rng at c_5
            refine lv_aload_n hx hb d_MO_send_44 rfl (lv_at hl 0 rfl) ?_
            refine gf_MO_110 hc hw d_MO_send_45 (v := .int (nI cn)) (congrArg Value.int (hM.1)) ?_
            refine lv_bipush (v := nI 24) hx hb d_MO_send_48 (by decide) ?_
            refine q_icmp_ne (tgt := 58) hc (by omega) (by omega) d_MO_send_50 (by decide) (fun c_6 => ?_) (fun c_6 => ?_)
            · refine lv_aload_n hx hb d_MO_send_58 rfl (lv_at hl 0 rfl) ?_
              refine lv_iload_n hx hb d_MO_send_59 rfl (lv_at hl 1 rfl) ?_
              refine lv_iload_n hx hb d_MO_send_60 rfl (lv_at hl 2 rfl) ?_
              refine lv_iload_n hx hb d_MO_send_61 rfl (lv_at hl 3 rfl) ?_
              refine lv_iload hx hb d_MO_send_62 (lv_at hl 4 rfl) ?_
              refine lv_bipush (v := (-9)) hx hb d_MO_send_64 (by decide) ?_
              refine kWV hc hw lk_MO_126 (h := 58) (As := [.int (nI zj0), .int (nI zj1), .int (nI zj2), .int (nI zj3), .int ((-9))]) (rest := []) (c_MO_write_n l D g _ cn fr to hv dy an af hM (zj0) (zj1) (zj2) (zj3) (by omega)) (rc_MO hw) ⟨Nat.le_of_ble_eq_true rfl, Nat.le_of_ble_eq_true rfl⟩ ⟨Nat.le_refl _, Nat.le_refl _⟩ rfl hl rfl (by decide) d_MO_send_66 (fun v_7 g_8 F_9 H locs zhp_10 hw => ?_)
              obtain ⟨rfl, rfl, zhL2, rfl⟩ := zhp_10
              exact W_i hc hw hr hlocks (by refine ⟨congrArg (fun z => some (Value.int z)) ?_, rfl, ?_, (by repeat (first | exact FrO.rf _ _ _ | refine FrO.up ?_ (by omega) (by omega)))⟩; (unfold s_send; (try simp only [inN, rng, zj0_t, zj0_e, zj1_t, zj1_e, zj2_t, zj2_e, zj3_t, zj3_e]); (repeat' split) <;> first | (exfalso; omega) | contradiction | rfl); (unfold s_send; (try simp only [inN, rng, zj0_t, zj0_e, zj1_t, zj1_e, zj2_t, zj2_e, zj3_t, zj3_e]); (repeat' split) <;> first | (exfalso; omega) | contradiction | exact MI_L (L2 := (_, _, _, _, _, _, _)) hMI zhL2 (fun k i h1 h2 => by simp only [u2]; repeat (rw [if_neg (by omega)])))) d_MO_send_69
            · refine lv_bipush (v := (-4)) hx hb d_MO_send_53 (by decide) ?_
              refine lv_goto (tgt := 69) hx hb d_MO_send_55 (by decide) ?_
              exact W_i hc hw hr hlocks (by refine ⟨congrArg (fun z => some (Value.int z)) ?_, rfl, ?_, (by repeat (first | exact FrO.rf _ _ _ | refine FrO.up ?_ (by omega) (by omega)))⟩; (unfold s_send; (try simp only [inN, rng, zj0_t, zj0_e, zj1_t, zj1_e, zj2_t, zj2_e, zj3_t, zj3_e]); (repeat' split) <;> first | (exfalso; omega) | contradiction | rfl); (unfold s_send; (try simp only [inN, rng, zj0_t, zj0_e, zj1_t, zj1_e, zj2_t, zj2_e, zj3_t, zj3_e]); (repeat' split) <;> first | (exfalso; omega) | contradiction | exact hMI)) d_MO_send_69
          · try unfold rng at c_5
            refine lv_bipush (v := (-2)) hx hb d_MO_send_41 (by decide) ?_
            exact W_i hc hw hr hlocks (by refine ⟨congrArg (fun z => some (Value.int z)) ?_, rfl, ?_, (by repeat (first | exact FrO.rf _ _ _ | refine FrO.up ?_ (by omega) (by omega)))⟩; (unfold s_send; (try simp only [inN, rng, zj0_t, zj0_e, zj1_t, zj1_e, zj2_t, zj2_e]); (repeat' split) <;> first | (exfalso; omega) | contradiction | rfl); (unfold s_send; (try simp only [inN, rng, zj0_t, zj0_e, zj1_t, zj1_e, zj2_t, zj2_e]); (repeat' split) <;> first | (exfalso; omega) | contradiction | exact hMI)) d_MO_send_43
      · refine lv_iconst (v := (-1)) hx hb d_MO_send_21 (by decide) ?_
        exact W_i hc hw hr hlocks (by refine ⟨congrArg (fun z => some (Value.int z)) ?_, rfl, ?_, (by repeat (first | exact FrO.rf _ _ _ | refine FrO.up ?_ (by omega) (by omega)))⟩; (unfold s_send; (try simp only [inN, rng, zj0_t, zj0_e, zj1_t, zj1_e]); (repeat' split) <;> first | (exfalso; omega) | contradiction | rfl); (unfold s_send; (try simp only [inN, rng, zj0_t, zj0_e, zj1_t, zj1_e]); (repeat' split) <;> first | (exfalso; omega) | contradiction | exact hMI)) d_MO_send_22
set_option maxHeartbeats 4000000 in
theorem c_MO_answer (l : Launch) (D : va_G) (g : wG) (F : wF) (pc : Nat) (lf : Nat → Nat) (lw : Nat) (cn : Nat) (fr to hv dy : Nat → Nat) (an af : Nat → Option Nat) (ln : Nat → Option Nat) (sz : Nat → Nat) (ce : Nat → Nat → Int32) (tr ft : Int32) (hG : GI g (pc, lf) lw (cn, fr, to, hv, dy, an, af) (ln, sz, ce)) (hMI : MI g F (pc, lf) lw (cn, fr, to, hv, dy, an, af) (ln, sz, ce) tr ft) (zp0 zp1 zp2 : Int32) : CW l y_MO_answer b_MO_answer 4 (Option.some Jvm.ClassFile.FieldType.int) 5 0 0 D g F [.ref (wad g 58), .int zp0, .int zp1, .int zp2] (fun v g2 u => v = some (.int (s_answer (cn, fr, to, hv, dy, an, af) zp0 zp1 zp2).1) ∧ g = g2 ∧ MI g u (pc, lf) lw (s_answer (cn, fr, to, hv, dy, an, af) zp0 zp1 zp2).2 (ln, sz, ce) tr ft ∧ FrO 58 78 F u) := by
  refine CW.start rfl (Nat.le_of_ble_eq_true rfl) ?_
  intro p e s m args below meth c A ls hc hr hlocks hw hl
  have hl : lv_has ls 4 [(0, .ref (wad g 58)), (1, .int zp0), (2, .int zp1), (3, .int zp2)] := hl
  have hx := hc.1
  have hb := hc.2.1
  obtain ⟨hpc6, hpcm, hm6, hpc0, hper⟩ : PI g pc lf := hG.1
  have hlw : lw ≤ 2 := hG.2.1
  have hI : LI pc cn fr to hv dy an af := hG.2.2.1
  have hcn := hI.1
  have hSI : SI ln sz := hG.2.2.2
  have hPM : PM g F pc lf := hMI.1
  have hM : LM F cn fr to hv dy an af := hMI.2.2.1
  have hSM : SM F ln sz ce := hMI.2.2.2.1
  have hK : ∀ q, q < pc → F 62 q = nI (wK g q) ∧ wK g q ≤ 2 := fun q hq => ⟨(hPM.2 q hq).1, (hper q hq).1⟩
  refine lv_aload_n hx hb d_MO_answer_0 rfl (lv_at hl 0 rfl) ?_
  refine lv_iload_n hx hb d_MO_answer_1 rfl (lv_at hl 1 rfl) ?_
  refine kRV hc hw lk_MO_130 (As := [.int zp0]) (rest := []) (c_MO_isLetter l D g _ cn (hM.1) hcn (zp0)) (rc_MO hw) ⟨Nat.le_of_ble_eq_true rfl, Nat.le_of_ble_eq_true rfl⟩ ⟨Nat.le_refl _, Nat.le_refl _⟩ rfl hl rfl (Nat.le_of_ble_eq_true rfl) d_MO_answer_2 ?_
  refine b_if_ne (tgt := 10) hc d_MO_answer_5 (by decide) (fun c_1 => ?_) (fun c_1 => ?_)
  · obtain ⟨zj0, rfl, zj0_1⟩ := inN_nat c_1
    have zj0_e := nI_tI (j := zj0) (by omega)
    have zj0_t := tn_nI (j := zj0) (by omega)
    try unfold inN at c_1
    obtain ⟨⟨hi1, hi2, hi3, hi4, hi5, hi6⟩, hi7, hi8⟩ := hI.2 zj0 (by omega)
    refine lv_iload_n hx hb d_MO_answer_10 rfl (lv_at hl 2 rfl) ?_
    refine lv_iconst (v := nI 1) hx hb d_MO_answer_11 (by decide) ?_
    refine lv_bipush (v := nI 99) hx hb d_MO_answer_12 (by decide) ?_
    refine kRS hc hw lk_MO_76 (As := [.int zp1, .int (nI 1), .int (nI 99)]) (rest := []) (c_MO_within l D g _ (zp1) (nI 1) (nI 99) 1 99 (by decide) (by decide)) ⟨Nat.le_of_ble_eq_true rfl, Nat.le_of_ble_eq_true rfl⟩ ⟨Nat.le_refl _, Nat.le_refl _⟩ rfl hl rfl (Nat.le_of_ble_eq_true rfl) d_MO_answer_14 ?_
    refine b_if_eq (tgt := 37) hc d_MO_answer_17 (by decide) (fun c_2 => ?_) (fun c_2 => ?_)
    · try unfold rng at c_2
      refine lv_bipush (v := (-2)) hx hb d_MO_answer_37 (by decide) ?_
      exact W_i hc hw hr hlocks (by refine ⟨congrArg (fun z => some (Value.int z)) ?_, rfl, ?_, (by repeat (first | exact FrO.rf _ _ _ | refine FrO.up ?_ (by omega) (by omega)))⟩; (unfold s_answer; (try simp only [inN, rng, zj0_t, zj0_e]); (repeat' split) <;> first | (exfalso; omega) | contradiction | rfl); (unfold s_answer; (try simp only [inN, rng, zj0_t, zj0_e]); (repeat' split) <;> first | (exfalso; omega) | contradiction | exact hMI)) d_MO_answer_39
    · obtain ⟨zj1, rfl, zj1_1, zj1_2⟩ := rng_nat c_2 (by decide)
      have zj1_e := nI_tI (j := zj1) (by omega)
      have zj1_t := tn_nI (j := zj1) (by omega)
      try unfold rng at c_2
      refine lv_iload_n hx hb d_MO_answer_20 rfl (lv_at hl 3 rfl) ?_
      refine kRS hc hw lk_MO_123 (As := [.int zp2]) (rest := []) (c_MO_isDay l D g _ (zp2)) ⟨Nat.le_of_ble_eq_true rfl, Nat.le_of_ble_eq_true rfl⟩ ⟨Nat.le_refl _, Nat.le_refl _⟩ rfl hl rfl (Nat.le_of_ble_eq_true rfl) d_MO_answer_21 ?_
      refine b_if_eq (tgt := 37) hc d_MO_answer_24 (by decide) (fun c_3 => ?_) (fun c_3 => ?_)
      · try unfold rng at c_3
        refine lv_bipush (v := (-2)) hx hb d_MO_answer_37 (by decide) ?_
        exact W_i hc hw hr hlocks (by refine ⟨congrArg (fun z => some (Value.int z)) ?_, rfl, ?_, (by repeat (first | exact FrO.rf _ _ _ | refine FrO.up ?_ (by omega) (by omega)))⟩; (unfold s_answer; (try simp only [inN, rng, zj0_t, zj0_e, zj1_t, zj1_e]); (repeat' split) <;> first | (exfalso; omega) | contradiction | rfl); (unfold s_answer; (try simp only [inN, rng, zj0_t, zj0_e, zj1_t, zj1_e]); (repeat' split) <;> first | (exfalso; omega) | contradiction | exact hMI)) d_MO_answer_39
      · obtain ⟨zj2, rfl, zj2_1, zj2_2⟩ := rng_nat c_3 (by decide)
        have zj2_e := nI_tI (j := zj2) (by omega)
        have zj2_t := tn_nI (j := zj2) (by omega)
        try unfold rng at c_3
        refine lv_iload_n hx hb d_MO_answer_27 rfl (lv_at hl 3 rfl) ?_
        refine lv_aload_n hx hb d_MO_answer_28 rfl (lv_at hl 0 rfl) ?_
        refine gf_MO_40 hc hw d_MO_answer_29 ?_
        refine lv_iload_n hx hb d_MO_answer_32 rfl (lv_at hl 1 rfl) ?_
        refine r_iald hc hw (h := 69) (n := 24) (i := zj0) (fun _ => rfl) (by omega) (by omega) (by decide) d_MO_answer_33 (v := .int (nI (dy zj0))) (congrArg Value.int ((hM.2 (zj0) (by omega)).2.2.2.1)) ?_
        refine q_icmp_ge (tgt := 40) hc (by omega) (by omega) d_MO_answer_34 (by decide) (fun c_4 => ?_) (fun c_4 => ?_)
        · refine lv_aload_n hx hb d_MO_answer_40 rfl (lv_at hl 0 rfl) ?_
          refine gf_MO_43 hc hw d_MO_answer_41 ?_
          refine lv_iload_n hx hb d_MO_answer_44 rfl (lv_at hl 1 rfl) ?_
          rcases ho : an zj0 with _ | a
          · have zhsm : ¬ (an zj0).isSome = true := by rw [ho]; decide
            refine r_iald hc hw (h := 70) (n := 24) (i := zj0) (fun _ => rfl) (by omega) (by omega) (by decide) d_MO_answer_45 (v := .int ((-9))) (congrArg Value.int ((hM.2 (zj0) (by omega)).2.2.2.2.1.trans (by rw [ho]; rfl))) ?_
            refine lv_bipush (v := (-9)) hx hb d_MO_answer_46 (by decide) ?_
            refine u_icmp_eq (tgt := 54) (X := (-9)) (Y := (-9)) hc (by decide) (by decide) d_MO_answer_48 (by decide) (fun c_5 => ?_) (fun c_5 => ?_)
            · refine lv_aload_n hx hb d_MO_answer_54 rfl (lv_at hl 0 rfl) ?_
              refine gf_MO_110 hc hw d_MO_answer_55 (v := .int (nI cn)) (congrArg Value.int (hM.1)) ?_
              refine lv_bipush (v := nI 24) hx hb d_MO_answer_58 (by decide) ?_
              refine q_icmp_ne (tgt := 66) hc (by omega) (by omega) d_MO_answer_60 (by decide) (fun c_6 => ?_) (fun c_6 => ?_)
              · refine lv_aload_n hx hb d_MO_answer_66 rfl (lv_at hl 0 rfl) ?_
                refine gf_MO_43 hc hw d_MO_answer_67 ?_
                refine lv_iload_n hx hb d_MO_answer_70 rfl (lv_at hl 1 rfl) ?_
                refine lv_aload_n hx hb d_MO_answer_71 rfl (lv_at hl 0 rfl) ?_
                refine gf_MO_110 hc hw d_MO_answer_72 (v := .int (nI cn)) (congrArg Value.int (hM.1)) ?_
                refine r_iast hc hw (h := 70) (n := 24) (i := zj0) (fun _ => rfl) (by omega) (by omega) (by decide) d_MO_answer_75 (fun H locs hw => ?_)
                have hM1 := LM_y (x := zj0) (y := cn) hM
                refine lv_aload_n hx hb d_MO_answer_76 rfl (lv_at hl 0 rfl) ?_
                refine lv_aload_n hx hb d_MO_answer_77 rfl (lv_at hl 0 rfl) ?_
                refine gf_MO_34 hc hw d_MO_answer_78 ?_
                refine lv_iload_n hx hb d_MO_answer_81 rfl (lv_at hl 1 rfl) ?_
                refine r_iald hc hw (h := 67) (n := 24) (i := zj0) (fun _ => rfl) (by omega) (by omega) (by decide) d_MO_answer_82 (v := .int (nI (to zj0))) (congrArg Value.int ((u2_h (by decide)).trans ((hM.2 (zj0) (by omega)).2.1))) ?_
                refine lv_aload_n hx hb d_MO_answer_83 rfl (lv_at hl 0 rfl) ?_
                refine gf_MO_31 hc hw d_MO_answer_84 ?_
                refine lv_iload_n hx hb d_MO_answer_87 rfl (lv_at hl 1 rfl) ?_
                refine r_iald hc hw (h := 66) (n := 24) (i := zj0) (fun _ => rfl) (by omega) (by omega) (by decide) d_MO_answer_88 (v := .int (nI (fr zj0))) (congrArg Value.int ((u2_h (by decide)).trans ((hM.2 (zj0) (by omega)).1))) ?_
                refine lv_iload_n hx hb d_MO_answer_89 rfl (lv_at hl 2 rfl) ?_
                refine lv_iload_n hx hb d_MO_answer_90 rfl (lv_at hl 3 rfl) ?_
                refine lv_iload_n hx hb d_MO_answer_91 rfl (lv_at hl 1 rfl) ?_
                refine kWV hc hw lk_MO_126 (h := 58) (As := [.int (nI (to zj0)), .int (nI (fr zj0)), .int (nI zj1), .int (nI zj2), .int (nI zj0)]) (rest := []) (c_MO_write_s l D g _ cn fr to hv dy (va_up an zj0 (some cn)) af hM1 zj0 (to zj0) (fr zj0) (zj1) (zj2) (by omega)) (rc_MO hw) ⟨Nat.le_of_ble_eq_true rfl, Nat.le_of_ble_eq_true rfl⟩ ⟨Nat.le_refl _, Nat.le_refl _⟩ rfl hl rfl (by decide) d_MO_answer_92 (fun v_7 g_8 F_9 H locs zhp_10 hw => ?_)
                obtain ⟨rfl, rfl, zhL2, rfl⟩ := zhp_10
                rw [up_comm (show zj0 ≠ cn by omega)] at zhL2
                exact W_i hc hw hr hlocks (by refine ⟨congrArg (fun z => some (Value.int z)) ?_, rfl, ?_, (by repeat (first | exact FrO.rf _ _ _ | refine FrO.up ?_ (by omega) (by omega)))⟩; (unfold s_answer; (try simp only [inN, rng, zj0_t, zj0_e, zj1_t, zj1_e, zj2_t, zj2_e]); (repeat' split) <;> first | (exfalso; omega) | contradiction | rfl); (unfold s_answer; (try simp only [inN, rng, zj0_t, zj0_e, zj1_t, zj1_e, zj2_t, zj2_e]); (repeat' split) <;> first | (exfalso; omega) | contradiction | exact MI_L (L2 := (_, _, _, _, _, _, _)) hMI zhL2 (fun k i h1 h2 => by simp only [u2]; repeat (rw [if_neg (by omega)])))) d_MO_answer_95
              · refine lv_bipush (v := (-4)) hx hb d_MO_answer_63 (by decide) ?_
                exact W_i hc hw hr hlocks (by refine ⟨congrArg (fun z => some (Value.int z)) ?_, rfl, ?_, (by repeat (first | exact FrO.rf _ _ _ | refine FrO.up ?_ (by omega) (by omega)))⟩; (unfold s_answer; (try simp only [inN, rng, zj0_t, zj0_e, zj1_t, zj1_e, zj2_t, zj2_e]); (repeat' split) <;> first | (exfalso; omega) | contradiction | rfl); (unfold s_answer; (try simp only [inN, rng, zj0_t, zj0_e, zj1_t, zj1_e, zj2_t, zj2_e]); (repeat' split) <;> first | (exfalso; omega) | contradiction | exact hMI)) d_MO_answer_65
            · exact absurd c_5 (by decide)
          · obtain ⟨ha1, ha2, ha3, ha4, ha5⟩ := (hI.2 zj0 (by omega)).2.1 a ho
            have zhsm : (an zj0).isSome = true := by rw [ho]; rfl
            refine r_iald hc hw (h := 70) (n := 24) (i := zj0) (fun _ => rfl) (by omega) (by omega) (by decide) d_MO_answer_45 (v := .int (nI a)) (congrArg Value.int ((hM.2 (zj0) (by omega)).2.2.2.2.1.trans (by rw [ho]; rfl))) ?_
            refine lv_bipush (v := (-9)) hx hb d_MO_answer_46 (by decide) ?_
            refine u_icmp_eq (tgt := 54) (X := ((a : Nat) : Int)) (Y := (-9)) hc (nI_tI (by omega)) (by decide) d_MO_answer_48 (by decide) (fun c_11 => ?_) (fun c_11 => ?_)
            · exact absurd c_11 (by omega)
            · refine lv_bipush (v := (-3)) hx hb d_MO_answer_51 (by decide) ?_
              exact W_i hc hw hr hlocks (by refine ⟨congrArg (fun z => some (Value.int z)) ?_, rfl, ?_, (by repeat (first | exact FrO.rf _ _ _ | refine FrO.up ?_ (by omega) (by omega)))⟩; (unfold s_answer; (try simp only [inN, rng, zj0_t, zj0_e, zj1_t, zj1_e, zj2_t, zj2_e]); (repeat' split) <;> first | (exfalso; omega) | contradiction | rfl); (unfold s_answer; (try simp only [inN, rng, zj0_t, zj0_e, zj1_t, zj1_e, zj2_t, zj2_e]); (repeat' split) <;> first | (exfalso; omega) | contradiction | exact hMI)) d_MO_answer_53
        · refine lv_bipush (v := (-2)) hx hb d_MO_answer_37 (by decide) ?_
          exact W_i hc hw hr hlocks (by refine ⟨congrArg (fun z => some (Value.int z)) ?_, rfl, ?_, (by repeat (first | exact FrO.rf _ _ _ | refine FrO.up ?_ (by omega) (by omega)))⟩; (unfold s_answer; (try simp only [inN, rng, zj0_t, zj0_e, zj1_t, zj1_e, zj2_t, zj2_e]); (repeat' split) <;> first | (exfalso; omega) | contradiction | rfl); (unfold s_answer; (try simp only [inN, rng, zj0_t, zj0_e, zj1_t, zj1_e, zj2_t, zj2_e]); (repeat' split) <;> first | (exfalso; omega) | contradiction | exact hMI)) d_MO_answer_39
  · try unfold inN at c_1
    refine lv_iconst (v := (-1)) hx hb d_MO_answer_8 (by decide) ?_
    exact W_i hc hw hr hlocks (by refine ⟨congrArg (fun z => some (Value.int z)) ?_, rfl, ?_, (by repeat (first | exact FrO.rf _ _ _ | refine FrO.up ?_ (by omega) (by omega)))⟩; (unfold s_answer; (try simp only [inN, rng]); (repeat' split) <;> first | (exfalso; omega) | contradiction | rfl); (unfold s_answer; (try simp only [inN, rng]); (repeat' split) <;> first | (exfalso; omega) | contradiction | exact hMI)) d_MO_answer_9
set_option maxHeartbeats 4000000 in
theorem c_MO_burn (l : Launch) (D : va_G) (g : wG) (F : wF) (pc : Nat) (lf : Nat → Nat) (lw : Nat) (cn : Nat) (fr to hv dy : Nat → Nat) (an af : Nat → Option Nat) (ln : Nat → Option Nat) (sz : Nat → Nat) (ce : Nat → Nat → Int32) (tr ft : Int32) (hG : GI g (pc, lf) lw (cn, fr, to, hv, dy, an, af) (ln, sz, ce)) (hMI : MI g F (pc, lf) lw (cn, fr, to, hv, dy, an, af) (ln, sz, ce) tr ft) (zp0 : Int32) : CW l y_MO_burn b_MO_burn 3 (Option.some Jvm.ClassFile.FieldType.int) 5 0 0 D g F [.ref (wad g 58), .int zp0] (fun v g2 u => v = some (.int (s_burn (cn, fr, to, hv, dy, an, af) zp0).1) ∧ g = g2 ∧ MI g u (pc, lf) lw (s_burn (cn, fr, to, hv, dy, an, af) zp0).2 (ln, sz, ce) tr ft ∧ FrO 58 78 F u) := by
  refine CW.start rfl (Nat.le_of_ble_eq_true rfl) ?_
  intro p e s m args below meth c A ls hc hr hlocks hw hl
  have hl : lv_has ls 3 [(0, .ref (wad g 58)), (1, .int zp0)] := hl
  have hx := hc.1
  have hb := hc.2.1
  obtain ⟨hpc6, hpcm, hm6, hpc0, hper⟩ : PI g pc lf := hG.1
  have hlw : lw ≤ 2 := hG.2.1
  have hI : LI pc cn fr to hv dy an af := hG.2.2.1
  have hcn := hI.1
  have hSI : SI ln sz := hG.2.2.2
  have hPM : PM g F pc lf := hMI.1
  have hM : LM F cn fr to hv dy an af := hMI.2.2.1
  have hSM : SM F ln sz ce := hMI.2.2.2.1
  have hK : ∀ q, q < pc → F 62 q = nI (wK g q) ∧ wK g q ≤ 2 := fun q hq => ⟨(hPM.2 q hq).1, (hper q hq).1⟩
  refine lv_iload_n hx hb d_MO_burn_0 rfl (lv_at hl 1 rfl) ?_
  refine lv_iconst (v := nI 0) hx hb d_MO_burn_1 (by decide) ?_
  refine lv_aload_n hx hb d_MO_burn_2 rfl (lv_at hl 0 rfl) ?_
  refine gf_MO_110 hc hw d_MO_burn_3 (v := .int (nI cn)) (congrArg Value.int (hM.1)) ?_
  refine kRS hc hw lk_MO_76 (As := [.int zp0, .int (nI 0), .int (nI cn)]) (rest := []) (c_MO_within l D g _ (zp0) (nI 0) (nI cn) 0 ((cn : Nat) : Int) (by decide) (nI_tI (by omega))) ⟨Nat.le_of_ble_eq_true rfl, Nat.le_of_ble_eq_true rfl⟩ ⟨Nat.le_refl _, Nat.le_refl _⟩ rfl hl rfl (Nat.le_of_ble_eq_true rfl) d_MO_burn_6 ?_
  refine b_if_ne (tgt := 15) hc d_MO_burn_9 (by decide) (fun c_1 => ?_) (fun c_1 => ?_)
  · obtain ⟨zj0, rfl, zj0_1, zj0_2⟩ := rng_nat c_1 (by decide)
    have zj0_e := nI_tI (j := zj0) (by omega)
    have zj0_t := tn_nI (j := zj0) (by omega)
    try unfold rng at c_1
    refine lv_iconst (v := nI 0) hx hb d_MO_burn_15 (by decide) ?_
    refine lv_istore_n (lv' := [(2, .int (nI 0)), (0, .ref (wad g 58)), (1, .int (nI zj0))]) hx hb d_MO_burn_16 rfl hl (by decide) rfl (fun ls hl => ?_)
    have loop_17 : ∀ (n_17 : Nat) (b : Nat) (F1 : wF) (H : Heap) (locs : List Loc) (ls : Array Slot), (zj0 - b) < n_17 → (b ≤ zj0) → (LM F1 (cn - b) fr to hv dy (anC an (cn - b)) af) → (∀ k i, ¬ (k = 58 ∧ i = 13) → (k < 66 ∨ 71 < k) → F1 k i = F k i) → Wd D g F1 A s.heap H locs s → lv_has ls 3 [(0, .ref (wad g 58)), (1, .int (nI zj0)), (2, .int (nI b))] → W p l e (rmc 5 0 0) s m args below meth c H locs 0 0 (MQ below (Qw (fun v g2 u => v = some (.int (s_burn (cn, fr, to, hv, dy, an, af) (nI zj0)).1) ∧ g = g2 ∧ MI g u (pc, lf) lw (s_burn (cn, fr, to, hv, dy, an, af) (nI zj0)).2 (ln, sz, ce) tr ft ∧ FrO 58 78 F u) (Bw D A) A) args s 0 0 A) (F0 m 17 ls []) := by
      intro n_17
      induction n_17 with
      | zero => intro b F1 H locs ls hm; exact absurd hm (Nat.not_lt_zero _)
      | succ n_17 ih_17 =>
        intro b F1 H locs ls hm_17 hbk zhB zhF1 hw hl
        refine lv_iload_n hx hb d_MO_burn_17 rfl (lv_at hl 2 rfl) ?_
        refine lv_iload_n hx hb d_MO_burn_18 rfl (lv_at hl 1 rfl) ?_
        refine q_icmp_ge (tgt := 68) hc (by omega) (by omega) d_MO_burn_19 (by decide) (fun c_2 => ?_) (fun c_2 => ?_)
        · have hkb : b = zj0 := by omega
          subst hkb
          refine lv_aload_n hx hb d_MO_burn_68 rfl (lv_at hl 0 rfl) ?_
          refine gf_MO_110 hc hw d_MO_burn_69 (v := .int (nI (cn - b))) (congrArg Value.int (zhB.1)) ?_
          exact W_i hc hw hr hlocks (by refine ⟨congrArg (fun z => some (Value.int z)) ?_, rfl, ?_, (fun h hh => funext fun i => zhF1 h i (by omega) (by omega))⟩; (unfold s_burn; (try simp only [inN, rng, zj0_t, zj0_e]); (repeat' split) <;> first | (exfalso; omega) | contradiction | rfl); (unfold s_burn; (try simp only [inN, rng, zj0_t, zj0_e]); (repeat' split) <;> first | (exfalso; omega) | contradiction | exact MI_L (L2 := (_, _, _, _, _, _, _)) hMI zhB zhF1)) d_MO_burn_72
        · obtain ⟨c0, hc0⟩ : ∃ c0, cn - b = c0 + 1 := ⟨cn - b - 1, by omega⟩
          rw [hc0] at zhB
          refine lv_aload_n hx hb d_MO_burn_22 rfl (lv_at hl 0 rfl) ?_
          refine lv_dup hx hb d_MO_burn_23 rfl ?_
          refine gf_MO_110 hc hw d_MO_burn_24 (v := .int (nI (c0 + 1))) (congrArg Value.int (zhB.1)) ?_
          refine lv_iconst (v := nI 1) hx hb d_MO_burn_27 (by decide) ?_
          refine q_isub hc (by omega) d_MO_burn_28 ?_
          rw [show c0 + 1 - 1 = c0 from rfl]
          refine pf_MO_110 hc hw d_MO_burn_29 (fun H locs hw => ?_)
          have hB1 := LM_d zhB
          refine lv_aload_n hx hb d_MO_burn_32 rfl (lv_at hl 0 rfl) ?_
          refine gf_MO_46 hc hw d_MO_burn_33 ?_
          refine lv_aload_n hx hb d_MO_burn_36 rfl (lv_at hl 0 rfl) ?_
          refine gf_MO_110 hc hw d_MO_burn_37 (v := .int (nI c0)) (congrArg Value.int (u2_same _ _ _ _)) ?_
          rcases ho : af c0 with _ | x
          · refine r_iald hc hw (h := 71) (n := 24) (i := c0) (fun _ => rfl) (by omega) (by omega) (by decide) d_MO_burn_40 (v := .int ((-9))) (congrArg Value.int ((u2_h (by decide)).trans ((zhB.2 c0 (by omega)).2.2.2.2.2.trans (by rw [ho]; rfl)))) ?_
            refine lv_bipush (v := (-9)) hx hb d_MO_burn_41 (by decide) ?_
            refine u_icmp_eq (tgt := 62) (X := (-9)) (Y := (-9)) hc (by decide) (by decide) d_MO_burn_43 (by decide) (fun c_3 => ?_) (fun c_3 => ?_)
            · refine lv_iinc (v := nI (b + 1)) (lv' := [(2, .int (nI (b + 1))), (0, .ref (wad g 58)), (1, .int (nI zj0))]) hx hb d_MO_burn_62 hl (k := 2) rfl (nI_inc1 _) (by decide) rfl (fun ls hl => ?_)
              refine lv_goto (tgt := 17) hx hb d_MO_burn_65 (by decide) ?_
              exact ih_17 (b + 1) _ _ _ _ (by omega) (by omega) (by rw [show cn - (b + 1) = c0 by omega]; exact LM_an hB1 (anC_n hI (by omega) ho)) (fun k i h1 h2 => by simp only [u2]; rw [if_neg h1]; exact zhF1 k i h1 h2) hw (lv_sub hl [1, 2, 0] rfl)
            · exact absurd c_3 (by decide)
          · obtain ⟨hx1, hx2⟩ := (hI.2 c0 (by omega)).2.2 x ho
            refine r_iald hc hw (h := 71) (n := 24) (i := c0) (fun _ => rfl) (by omega) (by omega) (by decide) d_MO_burn_40 (v := .int (nI x)) (congrArg Value.int ((u2_h (by decide)).trans ((zhB.2 c0 (by omega)).2.2.2.2.2.trans (by rw [ho]; rfl)))) ?_
            refine lv_bipush (v := (-9)) hx hb d_MO_burn_41 (by decide) ?_
            refine u_icmp_eq (tgt := 62) (X := ((x : Nat) : Int)) (Y := (-9)) hc (nI_tI (by omega)) (by decide) d_MO_burn_43 (by decide) (fun c_4 => ?_) (fun c_4 => ?_)
            · exact absurd c_4 (by omega)
            · refine lv_aload_n hx hb d_MO_burn_46 rfl (lv_at hl 0 rfl) ?_
              refine gf_MO_43 hc hw d_MO_burn_47 ?_
              refine lv_aload_n hx hb d_MO_burn_50 rfl (lv_at hl 0 rfl) ?_
              refine gf_MO_46 hc hw d_MO_burn_51 ?_
              refine lv_aload_n hx hb d_MO_burn_54 rfl (lv_at hl 0 rfl) ?_
              refine gf_MO_110 hc hw d_MO_burn_55 (v := .int (nI c0)) (congrArg Value.int (u2_same _ _ _ _)) ?_
              refine r_iald hc hw (h := 71) (n := 24) (i := c0) (fun _ => rfl) (by omega) (by omega) (by decide) d_MO_burn_58 (v := .int (nI x)) (congrArg Value.int ((u2_h (by decide)).trans ((zhB.2 c0 (by omega)).2.2.2.2.2.trans (by rw [ho]; rfl)))) ?_
              refine lv_bipush (v := (-9)) hx hb d_MO_burn_59 (by decide) ?_
              refine r_iast hc hw (h := 70) (n := 24) (i := x) (fun _ => rfl) (by omega) (by omega) (by decide) d_MO_burn_61 (fun H locs hw => ?_)
              refine lv_iinc (v := nI (b + 1)) (lv' := [(2, .int (nI (b + 1))), (0, .ref (wad g 58)), (1, .int (nI zj0))]) hx hb d_MO_burn_62 hl (k := 2) rfl (nI_inc1 _) (by decide) rfl (fun ls hl => ?_)
              refine lv_goto (tgt := 17) hx hb d_MO_burn_65 (by decide) ?_
              exact ih_17 (b + 1) _ _ _ _ (by omega) (by omega) (by rw [show cn - (b + 1) = c0 by omega]; exact LM_an (LM_x hB1) (anC_s hI (by omega) ho)) (fun k i h1 h2 => by rw [u2_h (by omega)]; simp only [u2]; rw [if_neg h1]; exact zhF1 k i h1 h2) hw (lv_sub hl [1, 2, 0] rfl)
    exact loop_17 _ 0 _ _ _ _ (Nat.lt_succ_self _) (Nat.zero_le _) (LM_an hM (anC_id hI)) (fun _ _ _ _ => rfl) hw (lv_sub hl [1, 2, 0] rfl)
  · try unfold rng at c_1
    refine lv_bipush (v := (-2)) hx hb d_MO_burn_12 (by decide) ?_
    exact W_i hc hw hr hlocks (by refine ⟨congrArg (fun z => some (Value.int z)) ?_, rfl, ?_, (by repeat (first | exact FrO.rf _ _ _ | refine FrO.up ?_ (by omega) (by omega)))⟩; (unfold s_burn; (try simp only [inN, rng]); (repeat' split) <;> first | (exfalso; omega) | contradiction | rfl); (unfold s_burn; (try simp only [inN, rng]); (repeat' split) <;> first | (exfalso; omega) | contradiction | exact hMI)) d_MO_burn_14
set_option maxHeartbeats 4000000 in
theorem c_MO_tell (l : Launch) (D : va_G) (g : wG) (F : wF) (pc : Nat) (lf : Nat → Nat) (lw : Nat) (cn : Nat) (fr to hv dy : Nat → Nat) (an af : Nat → Option Nat) (ln : Nat → Option Nat) (sz : Nat → Nat) (ce : Nat → Nat → Int32) (tr ft : Int32) (hG : GI g (pc, lf) lw (cn, fr, to, hv, dy, an, af) (ln, sz, ce)) (hMI : MI g F (pc, lf) lw (cn, fr, to, hv, dy, an, af) (ln, sz, ce) tr ft) (zp0 : Int32) : CW l y_MO_tell b_MO_tell 3 (Option.some Jvm.ClassFile.FieldType.int) 5 0 0 D g F [.ref (wad g 58), .int zp0] (fun v g2 u => v = some (.int (s_tell (wK g) (pc, lf) tr zp0).1) ∧ g = g2 ∧ MI g u (pc, lf) lw (cn, fr, to, hv, dy, an, af) (ln, sz, ce) (s_tell (wK g) (pc, lf) tr zp0).2 ft ∧ FrO 58 78 F u) := by
  refine CW.start rfl (Nat.le_of_ble_eq_true rfl) ?_
  intro p e s m args below meth c A ls hc hr hlocks hw hl
  have hl : lv_has ls 3 [(0, .ref (wad g 58)), (1, .int zp0)] := hl
  have hx := hc.1
  have hb := hc.2.1
  obtain ⟨hpc6, hpcm, hm6, hpc0, hper⟩ : PI g pc lf := hG.1
  have hlw : lw ≤ 2 := hG.2.1
  have hI : LI pc cn fr to hv dy an af := hG.2.2.1
  have hcn := hI.1
  have hSI : SI ln sz := hG.2.2.2
  have hPM : PM g F pc lf := hMI.1
  have hM : LM F cn fr to hv dy an af := hMI.2.2.1
  have hSM : SM F ln sz ce := hMI.2.2.2.1
  have hK : ∀ q, q < pc → F 62 q = nI (wK g q) ∧ wK g q ≤ 2 := fun q hq => ⟨(hPM.2 q hq).1, (hper q hq).1⟩
  refine lv_aload_n hx hb d_MO_tell_0 rfl (lv_at hl 0 rfl) ?_
  refine lv_iload_n hx hb d_MO_tell_1 rfl (lv_at hl 1 rfl) ?_
  refine kRV hc hw lk_MO_116 (As := [.int zp0]) (rest := []) (c_MO_isPerson l D g _ pc (hPM.1) hpc6 (zp0)) (rc_MO hw) ⟨Nat.le_of_ble_eq_true rfl, Nat.le_of_ble_eq_true rfl⟩ ⟨Nat.le_refl _, Nat.le_refl _⟩ rfl hl rfl (Nat.le_of_ble_eq_true rfl) d_MO_tell_2 ?_
  refine b_if_ne (tgt := 10) hc d_MO_tell_5 (by decide) (fun c_1 => ?_) (fun c_1 => ?_)
  · obtain ⟨zj0, rfl, zj0_1⟩ := inN_nat c_1
    have zj0_e := nI_tI (j := zj0) (by omega)
    have zj0_t := tn_nI (j := zj0) (by omega)
    try unfold inN at c_1
    obtain ⟨hj0a, hj0b, hj0c⟩ := hper zj0 (by omega)
    refine lv_aload_n hx hb d_MO_tell_10 rfl (lv_at hl 0 rfl) ?_
    refine gf_MO_22 hc hw d_MO_tell_11 ?_
    refine lv_iload_n hx hb d_MO_tell_14 rfl (lv_at hl 1 rfl) ?_
    refine r_iald hc hw (h := 63) (n := 6) (i := zj0) (fun _ => rfl) (by omega) (by omega) (by decide) d_MO_tell_15 (v := .int (nI (lf zj0))) (congrArg Value.int ((hPM.2 (zj0) (by omega)).2)) ?_
    refine lv_istore_n (lv' := [(2, .int (nI (lf zj0))), (0, .ref (wad g 58)), (1, .int (nI zj0))]) hx hb d_MO_tell_16 rfl hl (by decide) rfl (fun ls hl => ?_)
    refine lv_aload_n hx hb d_MO_tell_17 rfl (lv_at hl 1 rfl) ?_
    refine gf_MO_19 hc hw d_MO_tell_18 ?_
    refine lv_iload_n hx hb d_MO_tell_21 rfl (lv_at hl 2 rfl) ?_
    refine r_iald hc hw (h := 62) (n := 6) (i := zj0) (fun _ => rfl) (by omega) (by omega) (by decide) d_MO_tell_22 (v := .int (nI (wK g zj0))) (congrArg Value.int ((hPM.2 (zj0) (by omega)).1)) ?_
    by_cases c_2 : wK g zj0 = 1
    · refine lv_lookup (tgt := 48) hx hb d_MO_tell_23 (by decide) (by rw [show (nI (wK g zj0)).toInt = 1 from by rw [c_2] <;> rfl] <;> rfl) (by decide) ?_
      refine lv_aload_n hx hb d_MO_tell_48 rfl (lv_at hl 1 rfl) ?_
      refine lv_iconst (v := nI 2) hx hb d_MO_tell_49 (by decide) ?_
      refine kWV hc hw lk_MO_193 (h := 58) (As := [.int (nI 2)]) (rest := []) (c_MO_begins l D g _ (nI 2) tr (hMI.2.2.2.2.1)) (rc_MO hw) ⟨Nat.le_of_ble_eq_true rfl, Nat.le_of_ble_eq_true rfl⟩ ⟨Nat.le_refl _, Nat.le_refl _⟩ rfl hl rfl (Nat.le_of_ble_eq_true rfl) d_MO_tell_50 (fun v_3 g_4 F_5 H locs zhp_6 hw => ?_)
      obtain ⟨rfl, rfl, rfl⟩ := zhp_6
      refine lv_aload_n hx hb d_MO_tell_53 rfl (lv_at hl 1 rfl) ?_
      refine lv_iconst (v := nI 1) hx hb d_MO_tell_54 (by decide) ?_
      refine kWV hc hw lk_MO_193 (h := 58) (As := [.int (nI 1)]) (rest := []) (c_MO_begins l D g _ (nI 1) (31 * tr + nI 2) (u2_same _ _ _ _)) (rc_MO hw) ⟨Nat.le_of_ble_eq_true rfl, Nat.le_of_ble_eq_true rfl⟩ ⟨Nat.le_refl _, Nat.le_refl _⟩ rfl hl rfl (Nat.le_of_ble_eq_true rfl) d_MO_tell_55 (fun v_7 g_8 F_9 H locs zhp_10 hw => ?_)
      obtain ⟨rfl, rfl, rfl⟩ := zhp_10
      refine lv_iload_n hx hb d_MO_tell_58 rfl (lv_at hl 0 rfl) ?_
      refine lv_bipush (v := nI 100) hx hb d_MO_tell_59 (by decide) ?_
      refine q_iadd hc d_MO_tell_61 ?_
      exact W_i hc hw hr hlocks (by refine ⟨congrArg (fun z => some (Value.int z)) ?_, rfl, ?_, (by repeat (first | exact FrO.rf _ _ _ | refine FrO.up ?_ (by omega) (by omega)))⟩; (unfold s_tell; (try simp only [inN, rng, zj0_t, zj0_e, tlN, tlT]); (repeat' split) <;> first | (exfalso; omega) | contradiction | rfl | exact congrArg nI (by omega)); (unfold s_tell; (try simp only [inN, rng, zj0_t, zj0_e, tlN, tlT]); (repeat' split) <;> first | (exfalso; omega) | contradiction | exact MI_tr (MI_tr (hMI) _) _)) d_MO_tell_62
    by_cases c_11 : wK g zj0 = 2
    · refine lv_lookup (tgt := 63) hx hb d_MO_tell_23 (by decide) (by rw [show (nI (wK g zj0)).toInt = 2 from by rw [c_11] <;> rfl] <;> rfl) (by decide) ?_
      refine lv_aload_n hx hb d_MO_tell_63 rfl (lv_at hl 1 rfl) ?_
      refine lv_iconst (v := nI 3) hx hb d_MO_tell_64 (by decide) ?_
      refine kWV hc hw lk_MO_193 (h := 58) (As := [.int (nI 3)]) (rest := []) (c_MO_begins l D g _ (nI 3) tr (hMI.2.2.2.2.1)) (rc_MO hw) ⟨Nat.le_of_ble_eq_true rfl, Nat.le_of_ble_eq_true rfl⟩ ⟨Nat.le_refl _, Nat.le_refl _⟩ rfl hl rfl (Nat.le_of_ble_eq_true rfl) d_MO_tell_65 (fun v_12 g_13 F_14 H locs zhp_15 hw => ?_)
      obtain ⟨rfl, rfl, rfl⟩ := zhp_15
      refine lv_aload_n hx hb d_MO_tell_68 rfl (lv_at hl 1 rfl) ?_
      refine lv_iconst (v := nI 2) hx hb d_MO_tell_69 (by decide) ?_
      refine kWV hc hw lk_MO_193 (h := 58) (As := [.int (nI 2)]) (rest := []) (c_MO_begins l D g _ (nI 2) (31 * tr + nI 3) (u2_same _ _ _ _)) (rc_MO hw) ⟨Nat.le_of_ble_eq_true rfl, Nat.le_of_ble_eq_true rfl⟩ ⟨Nat.le_refl _, Nat.le_refl _⟩ rfl hl rfl (Nat.le_of_ble_eq_true rfl) d_MO_tell_70 (fun v_16 g_17 F_18 H locs zhp_19 hw => ?_)
      obtain ⟨rfl, rfl, rfl⟩ := zhp_19
      refine lv_aload_n hx hb d_MO_tell_73 rfl (lv_at hl 1 rfl) ?_
      refine lv_iconst (v := nI 1) hx hb d_MO_tell_74 (by decide) ?_
      refine kWV hc hw lk_MO_193 (h := 58) (As := [.int (nI 1)]) (rest := []) (c_MO_begins l D g _ (nI 1) (31 * (31 * tr + nI 3) + nI 2) (u2_same _ _ _ _)) (rc_MO hw) ⟨Nat.le_of_ble_eq_true rfl, Nat.le_of_ble_eq_true rfl⟩ ⟨Nat.le_refl _, Nat.le_refl _⟩ rfl hl rfl (Nat.le_of_ble_eq_true rfl) d_MO_tell_75 (fun v_20 g_21 F_22 H locs zhp_23 hw => ?_)
      obtain ⟨rfl, rfl, rfl⟩ := zhp_23
      refine lv_aload_n hx hb d_MO_tell_78 rfl (lv_at hl 1 rfl) ?_
      refine lv_iconst (v := nI 1) hx hb d_MO_tell_79 (by decide) ?_
      refine kWV hc hw lk_MO_193 (h := 58) (As := [.int (nI 1)]) (rest := []) (c_MO_begins l D g _ (nI 1) (31 * (31 * (31 * tr + nI 3) + nI 2) + nI 1) (u2_same _ _ _ _)) (rc_MO hw) ⟨Nat.le_of_ble_eq_true rfl, Nat.le_of_ble_eq_true rfl⟩ ⟨Nat.le_refl _, Nat.le_refl _⟩ rfl hl rfl (Nat.le_of_ble_eq_true rfl) d_MO_tell_80 (fun v_24 g_25 F_26 H locs zhp_27 hw => ?_)
      obtain ⟨rfl, rfl, rfl⟩ := zhp_27
      refine lv_iconst (v := nI 2) hx hb d_MO_tell_83 (by decide) ?_
      refine lv_iload_n hx hb d_MO_tell_84 rfl (lv_at hl 0 rfl) ?_
      refine q_imul hc d_MO_tell_85 ?_
      refine lv_bipush (v := nI 100) hx hb d_MO_tell_86 (by decide) ?_
      refine q_iadd hc d_MO_tell_88 ?_
      exact W_i hc hw hr hlocks (by refine ⟨congrArg (fun z => some (Value.int z)) ?_, rfl, ?_, (by repeat (first | exact FrO.rf _ _ _ | refine FrO.up ?_ (by omega) (by omega)))⟩; (unfold s_tell; (try simp only [inN, rng, zj0_t, zj0_e, tlN, tlT]); (repeat' split) <;> first | (exfalso; omega) | contradiction | rfl | exact congrArg nI (by omega)); (unfold s_tell; (try simp only [inN, rng, zj0_t, zj0_e, tlN, tlT]); (repeat' split) <;> first | (exfalso; omega) | contradiction | exact MI_tr (MI_tr (MI_tr (MI_tr (hMI) _) _) _) _)) d_MO_tell_89
    refine lv_lookup (tgt := 90) hx hb d_MO_tell_23 (by decide) ((lv_osw (k := nI 1) (fun q => c_2 ((nI_eq (a := wK g zj0) (b := 1) (by omega) (by decide)).mp q)) (by decide)).trans ((lv_osw (k := nI 2) (fun q => c_11 ((nI_eq (a := wK g zj0) (b := 2) (by omega) (by decide)).mp q)) (by decide)).trans rfl)) rfl ?_
    refine lv_aload_n hx hb d_MO_tell_90 rfl (lv_at hl 1 rfl) ?_
    refine lv_iconst (v := nI 1) hx hb d_MO_tell_91 (by decide) ?_
    refine kWV hc hw lk_MO_193 (h := 58) (As := [.int (nI 1)]) (rest := []) (c_MO_begins l D g _ (nI 1) tr (hMI.2.2.2.2.1)) (rc_MO hw) ⟨Nat.le_of_ble_eq_true rfl, Nat.le_of_ble_eq_true rfl⟩ ⟨Nat.le_refl _, Nat.le_refl _⟩ rfl hl rfl (Nat.le_of_ble_eq_true rfl) d_MO_tell_92 (fun v_28 g_29 F_30 H locs zhp_31 hw => ?_)
    obtain ⟨rfl, rfl, rfl⟩ := zhp_31
    refine lv_iload_n hx hb d_MO_tell_95 rfl (lv_at hl 0 rfl) ?_
    exact W_i hc hw hr hlocks (by refine ⟨congrArg (fun z => some (Value.int z)) ?_, rfl, ?_, (by repeat (first | exact FrO.rf _ _ _ | refine FrO.up ?_ (by omega) (by omega)))⟩; (unfold s_tell; (try simp only [inN, rng, zj0_t, zj0_e, tlN, tlT]); (repeat' split) <;> first | (exfalso; omega) | contradiction | rfl | exact congrArg nI (by omega)); (unfold s_tell; (try simp only [inN, rng, zj0_t, zj0_e, tlN, tlT]); (repeat' split) <;> first | (exfalso; omega) | contradiction | exact MI_tr (hMI) _)) d_MO_tell_96
  · try unfold inN at c_1
    refine lv_iconst (v := (-1)) hx hb d_MO_tell_8 (by decide) ?_
    exact W_i hc hw hr hlocks (by refine ⟨congrArg (fun z => some (Value.int z)) ?_, rfl, ?_, (by repeat (first | exact FrO.rf _ _ _ | refine FrO.up ?_ (by omega) (by omega)))⟩; (unfold s_tell; (try simp only [inN, rng, tlN, tlT]); (repeat' split) <;> first | (exfalso; omega) | contradiction | rfl | exact congrArg nI (by omega)); (unfold s_tell; (try simp only [inN, rng, tlN, tlT]); (repeat' split) <;> first | (exfalso; omega) | contradiction | exact hMI)) d_MO_tell_9
set_option maxHeartbeats 4000000 in
theorem c_MO_greet (l : Launch) (D : va_G) (g : wG) (F : wF) (pc : Nat) (lf : Nat → Nat) (lw : Nat) (cn : Nat) (fr to hv dy : Nat → Nat) (an af : Nat → Option Nat) (ln : Nat → Option Nat) (sz : Nat → Nat) (ce : Nat → Nat → Int32) (tr ft : Int32) (hG : GI g (pc, lf) lw (cn, fr, to, hv, dy, an, af) (ln, sz, ce)) (hMI : MI g F (pc, lf) lw (cn, fr, to, hv, dy, an, af) (ln, sz, ce) tr ft) (zp0 : Int32) : CW l y_MO_greet b_MO_greet 2 (Option.some Jvm.ClassFile.FieldType.int) 5 0 0 D g F [.ref (wad g 58), .int zp0] (fun v g2 u => v = some (.int (s_greet (wK g) (pc, lf) tr zp0).1) ∧ g = g2 ∧ MI g u (pc, lf) lw (cn, fr, to, hv, dy, an, af) (ln, sz, ce) (s_greet (wK g) (pc, lf) tr zp0).2 ft ∧ FrO 58 78 F u) := by
  refine CW.start rfl (Nat.le_of_ble_eq_true rfl) ?_
  intro p e s m args below meth c A ls hc hr hlocks hw hl
  have hl : lv_has ls 2 [(0, .ref (wad g 58)), (1, .int zp0)] := hl
  have hx := hc.1
  have hb := hc.2.1
  obtain ⟨hpc6, hpcm, hm6, hpc0, hper⟩ : PI g pc lf := hG.1
  have hlw : lw ≤ 2 := hG.2.1
  have hI : LI pc cn fr to hv dy an af := hG.2.2.1
  have hcn := hI.1
  have hSI : SI ln sz := hG.2.2.2
  have hPM : PM g F pc lf := hMI.1
  have hM : LM F cn fr to hv dy an af := hMI.2.2.1
  have hSM : SM F ln sz ce := hMI.2.2.2.1
  have hK : ∀ q, q < pc → F 62 q = nI (wK g q) ∧ wK g q ≤ 2 := fun q hq => ⟨(hPM.2 q hq).1, (hper q hq).1⟩
  refine lv_aload_n hx hb d_MO_greet_0 rfl (lv_at hl 0 rfl) ?_
  refine lv_iload_n hx hb d_MO_greet_1 rfl (lv_at hl 1 rfl) ?_
  refine kRV hc hw lk_MO_116 (As := [.int zp0]) (rest := []) (c_MO_isPerson l D g _ pc (hPM.1) hpc6 (zp0)) (rc_MO hw) ⟨Nat.le_of_ble_eq_true rfl, Nat.le_of_ble_eq_true rfl⟩ ⟨Nat.le_refl _, Nat.le_refl _⟩ rfl hl rfl (Nat.le_of_ble_eq_true rfl) d_MO_greet_2 ?_
  refine b_if_ne (tgt := 10) hc d_MO_greet_5 (by decide) (fun c_1 => ?_) (fun c_1 => ?_)
  · obtain ⟨zj0, rfl, zj0_1⟩ := inN_nat c_1
    have zj0_e := nI_tI (j := zj0) (by omega)
    have zj0_t := tn_nI (j := zj0) (by omega)
    try unfold inN at c_1
    obtain ⟨hj0a, hj0b, hj0c⟩ := hper zj0 (by omega)
    refine lv_aload_n hx hb d_MO_greet_10 rfl (lv_at hl 0 rfl) ?_
    refine lv_aload_n hx hb d_MO_greet_11 rfl (lv_at hl 0 rfl) ?_
    refine gf_MO_19 hc hw d_MO_greet_12 ?_
    refine lv_iload_n hx hb d_MO_greet_15 rfl (lv_at hl 1 rfl) ?_
    refine r_iald hc hw (h := 62) (n := 6) (i := zj0) (fun _ => rfl) (by omega) (by omega) (by decide) d_MO_greet_16 (v := .int (nI (wK g zj0))) (congrArg Value.int ((hPM.2 (zj0) (by omega)).1)) ?_
    refine lv_iconst (v := nI 2) hx hb d_MO_greet_17 (by decide) ?_
    refine q_icmp_ne (tgt := 25) hc (by omega) (by omega) d_MO_greet_18 (by decide) (fun c_2 => ?_) (fun c_2 => ?_)
    · refine lv_iconst (v := nI 4) hx hb d_MO_greet_25 (by decide) ?_
      refine kWV hc hw lk_MO_193 (h := 58) (As := [.int (nI 4)]) (rest := []) (c_MO_begins l D g _ (nI 4) tr (hMI.2.2.2.2.1)) (rc_MO hw) ⟨Nat.le_of_ble_eq_true rfl, Nat.le_of_ble_eq_true rfl⟩ ⟨Nat.le_refl _, Nat.le_refl _⟩ rfl hl rfl (Nat.le_of_ble_eq_true rfl) d_MO_greet_26 (fun v_3 g_4 F_5 H locs zhp_6 hw => ?_)
      obtain ⟨rfl, rfl, rfl⟩ := zhp_6
      refine lv_aload_n hx hb d_MO_greet_29 rfl (lv_at hl 0 rfl) ?_
      refine gf_MO_19 hc hw d_MO_greet_30 ?_
      refine lv_iload_n hx hb d_MO_greet_33 rfl (lv_at hl 1 rfl) ?_
      refine r_iald hc hw (h := 62) (n := 6) (i := zj0) (fun _ => rfl) (by omega) (by omega) (by decide) d_MO_greet_34 (v := .int (nI (wK g zj0))) (congrArg Value.int ((u2_h (by decide)).trans ((hPM.2 (zj0) (by omega)).1))) ?_
      refine lv_iconst (v := nI 2) hx hb d_MO_greet_35 (by decide) ?_
      refine q_icmp_ne (tgt := 44) hc (by omega) (by omega) d_MO_greet_36 (by decide) (fun c_7 => ?_) (fun c_7 => ?_)
      · refine lv_iload_n hx hb d_MO_greet_44 rfl (lv_at hl 1 rfl) ?_
        exact W_i hc hw hr hlocks (by refine ⟨congrArg (fun z => some (Value.int z)) ?_, rfl, ?_, (by repeat (first | exact FrO.rf _ _ _ | refine FrO.up ?_ (by omega) (by omega)))⟩; (unfold s_greet; (try simp only [inN, rng, zj0_t, zj0_e, tlN, tlT]); (repeat' split) <;> first | (exfalso; omega) | contradiction | rfl | exact congrArg nI (by omega)); (unfold s_greet; (try simp only [inN, rng, zj0_t, zj0_e, tlN, tlT]); (repeat' split) <;> first | (exfalso; omega) | contradiction | exact MI_tr (hMI) _)) d_MO_greet_45
      · refine lv_bipush (v := nI 90) hx hb d_MO_greet_39 (by decide) ?_
        refine lv_goto (tgt := 45) hx hb d_MO_greet_41 (by decide) ?_
        exact W_i hc hw hr hlocks (by refine ⟨congrArg (fun z => some (Value.int z)) ?_, rfl, ?_, (by repeat (first | exact FrO.rf _ _ _ | refine FrO.up ?_ (by omega) (by omega)))⟩; (unfold s_greet; (try simp only [inN, rng, zj0_t, zj0_e, tlN, tlT]); (repeat' split) <;> first | (exfalso; omega) | contradiction | rfl | exact congrArg nI (by omega)); (unfold s_greet; (try simp only [inN, rng, zj0_t, zj0_e, tlN, tlT]); (repeat' split) <;> first | (exfalso; omega) | contradiction | exact MI_tr (hMI) _)) d_MO_greet_45
    · refine lv_iconst (v := nI 5) hx hb d_MO_greet_21 (by decide) ?_
      refine lv_goto (tgt := 26) hx hb d_MO_greet_22 (by decide) ?_
      refine kWV hc hw lk_MO_193 (h := 58) (As := [.int (nI 5)]) (rest := []) (c_MO_begins l D g _ (nI 5) tr (hMI.2.2.2.2.1)) (rc_MO hw) ⟨Nat.le_of_ble_eq_true rfl, Nat.le_of_ble_eq_true rfl⟩ ⟨Nat.le_refl _, Nat.le_refl _⟩ rfl hl rfl (Nat.le_of_ble_eq_true rfl) d_MO_greet_26 (fun v_8 g_9 F_10 H locs zhp_11 hw => ?_)
      obtain ⟨rfl, rfl, rfl⟩ := zhp_11
      refine lv_aload_n hx hb d_MO_greet_29 rfl (lv_at hl 0 rfl) ?_
      refine gf_MO_19 hc hw d_MO_greet_30 ?_
      refine lv_iload_n hx hb d_MO_greet_33 rfl (lv_at hl 1 rfl) ?_
      refine r_iald hc hw (h := 62) (n := 6) (i := zj0) (fun _ => rfl) (by omega) (by omega) (by decide) d_MO_greet_34 (v := .int (nI (wK g zj0))) (congrArg Value.int ((u2_h (by decide)).trans ((hPM.2 (zj0) (by omega)).1))) ?_
      refine lv_iconst (v := nI 2) hx hb d_MO_greet_35 (by decide) ?_
      refine q_icmp_ne (tgt := 44) hc (by omega) (by omega) d_MO_greet_36 (by decide) (fun c_12 => ?_) (fun c_12 => ?_)
      · refine lv_iload_n hx hb d_MO_greet_44 rfl (lv_at hl 1 rfl) ?_
        exact W_i hc hw hr hlocks (by refine ⟨congrArg (fun z => some (Value.int z)) ?_, rfl, ?_, (by repeat (first | exact FrO.rf _ _ _ | refine FrO.up ?_ (by omega) (by omega)))⟩; (unfold s_greet; (try simp only [inN, rng, zj0_t, zj0_e, tlN, tlT]); (repeat' split) <;> first | (exfalso; omega) | contradiction | rfl | exact congrArg nI (by omega)); (unfold s_greet; (try simp only [inN, rng, zj0_t, zj0_e, tlN, tlT]); (repeat' split) <;> first | (exfalso; omega) | contradiction | exact MI_tr (hMI) _)) d_MO_greet_45
      · refine lv_bipush (v := nI 90) hx hb d_MO_greet_39 (by decide) ?_
        refine lv_goto (tgt := 45) hx hb d_MO_greet_41 (by decide) ?_
        exact W_i hc hw hr hlocks (by refine ⟨congrArg (fun z => some (Value.int z)) ?_, rfl, ?_, (by repeat (first | exact FrO.rf _ _ _ | refine FrO.up ?_ (by omega) (by omega)))⟩; (unfold s_greet; (try simp only [inN, rng, zj0_t, zj0_e, tlN, tlT]); (repeat' split) <;> first | (exfalso; omega) | contradiction | rfl | exact congrArg nI (by omega)); (unfold s_greet; (try simp only [inN, rng, zj0_t, zj0_e, tlN, tlT]); (repeat' split) <;> first | (exfalso; omega) | contradiction | exact MI_tr (hMI) _)) d_MO_greet_45
  · try unfold inN at c_1
    refine lv_iconst (v := (-1)) hx hb d_MO_greet_8 (by decide) ?_
    exact W_i hc hw hr hlocks (by refine ⟨congrArg (fun z => some (Value.int z)) ?_, rfl, ?_, (by repeat (first | exact FrO.rf _ _ _ | refine FrO.up ?_ (by omega) (by omega)))⟩; (unfold s_greet; (try simp only [inN, rng, tlN, tlT]); (repeat' split) <;> first | (exfalso; omega) | contradiction | rfl | exact congrArg nI (by omega)); (unfold s_greet; (try simp only [inN, rng, tlN, tlT]); (repeat' split) <;> first | (exfalso; omega) | contradiction | exact hMI)) d_MO_greet_9
set_option maxHeartbeats 4000000 in
theorem c_MO_as (l : Launch) (D : va_G) (g : wG) (F : wF) (pc : Nat) (lf : Nat → Nat) (lw : Nat) (cn : Nat) (fr to hv dy : Nat → Nat) (an af : Nat → Option Nat) (ln : Nat → Option Nat) (sz : Nat → Nat) (ce : Nat → Nat → Int32) (tr ft : Int32) (hG : GI g (pc, lf) lw (cn, fr, to, hv, dy, an, af) (ln, sz, ce)) (hMI : MI g F (pc, lf) lw (cn, fr, to, hv, dy, an, af) (ln, sz, ce) tr ft) (zp0 zp1 : Int32) : CW l y_MO_as b_MO_as 3 (Option.some Jvm.ClassFile.FieldType.int) 5 0 0 D g F [.ref (wad g 58), .int zp0, .int zp1] (fun v g2 u => v = some (.int (s_as (wK g) (pc, lf) zp0 zp1).1) ∧ g = g2 ∧ MI g u (pc, lf) lw (cn, fr, to, hv, dy, an, af) (ln, sz, ce) tr (s_as (wK g) (pc, lf) zp0 zp1).2 ∧ FrO 58 78 F u) := by
  refine CW.start rfl (Nat.le_of_ble_eq_true rfl) ?_
  intro p e s m args below meth c A ls hc hr hlocks hw hl
  have hl : lv_has ls 3 [(0, .ref (wad g 58)), (1, .int zp0), (2, .int zp1)] := hl
  have hx := hc.1
  have hb := hc.2.1
  obtain ⟨hpc6, hpcm, hm6, hpc0, hper⟩ : PI g pc lf := hG.1
  have hlw : lw ≤ 2 := hG.2.1
  have hI : LI pc cn fr to hv dy an af := hG.2.2.1
  have hcn := hI.1
  have hSI : SI ln sz := hG.2.2.2
  have hPM : PM g F pc lf := hMI.1
  have hM : LM F cn fr to hv dy an af := hMI.2.2.1
  have hSM : SM F ln sz ce := hMI.2.2.2.1
  have hK : ∀ q, q < pc → F 62 q = nI (wK g q) ∧ wK g q ≤ 2 := fun q hq => ⟨(hPM.2 q hq).1, (hper q hq).1⟩
  refine lv_aload_n hx hb d_MO_as_0 rfl (lv_at hl 0 rfl) ?_
  refine lv_iconst (v := nI 0) hx hb d_MO_as_1 (by decide) ?_
  refine pf_MO_70 hc hw d_MO_as_2 (fun H locs hw => ?_)
  refine lv_aload_n hx hb d_MO_as_5 rfl (lv_at hl 0 rfl) ?_
  refine lv_iload_n hx hb d_MO_as_6 rfl (lv_at hl 1 rfl) ?_
  refine kRV hc hw lk_MO_116 (As := [.int zp0]) (rest := []) (c_MO_isPerson l D g _ pc ((u2_i (by decide)).trans (hPM.1)) hpc6 (zp0)) (rc_MO hw) ⟨Nat.le_of_ble_eq_true rfl, Nat.le_of_ble_eq_true rfl⟩ ⟨Nat.le_refl _, Nat.le_refl _⟩ rfl hl rfl (Nat.le_of_ble_eq_true rfl) d_MO_as_7 ?_
  refine b_if_ne (tgt := 15) hc d_MO_as_10 (by decide) (fun c_1 => ?_) (fun c_1 => ?_)
  · obtain ⟨zj0, rfl, zj0_1⟩ := inN_nat c_1
    have zj0_e := nI_tI (j := zj0) (by omega)
    have zj0_t := tn_nI (j := zj0) (by omega)
    try unfold inN at c_1
    obtain ⟨hj0a, hj0b, hj0c⟩ := hper zj0 (by omega)
    refine lv_iload_n hx hb d_MO_as_15 rfl (lv_at hl 2 rfl) ?_
    refine lv_iconst (v := nI 0) hx hb d_MO_as_16 (by decide) ?_
    refine lv_iconst (v := nI 2) hx hb d_MO_as_17 (by decide) ?_
    refine kRS hc hw lk_MO_76 (As := [.int zp1, .int (nI 0), .int (nI 2)]) (rest := []) (c_MO_within l D g _ (zp1) (nI 0) (nI 2) 0 2 (by decide) (by decide)) ⟨Nat.le_of_ble_eq_true rfl, Nat.le_of_ble_eq_true rfl⟩ ⟨Nat.le_refl _, Nat.le_refl _⟩ rfl hl rfl (Nat.le_of_ble_eq_true rfl) d_MO_as_18 ?_
    refine b_if_ne (tgt := 27) hc d_MO_as_21 (by decide) (fun c_2 => ?_) (fun c_2 => ?_)
    · obtain ⟨zj1, rfl, zj1_1, zj1_2⟩ := rng_nat c_2 (by decide)
      have zj1_e := nI_tI (j := zj1) (by omega)
      have zj1_t := tn_nI (j := zj1) (by omega)
      try unfold rng at c_2
      refine lv_aload_n hx hb d_MO_as_27 rfl (lv_at hl 0 rfl) ?_
      refine gf_MO_19 hc hw d_MO_as_28 ?_
      refine lv_iload_n hx hb d_MO_as_31 rfl (lv_at hl 1 rfl) ?_
      refine r_iald hc hw (h := 62) (n := 6) (i := zj0) (fun _ => rfl) (by omega) (by omega) (by decide) d_MO_as_32 (v := .int (nI (wK g zj0))) (congrArg Value.int ((u2_h (by decide)).trans ((hPM.2 (zj0) (by omega)).1))) ?_
      refine lv_iload_n hx hb d_MO_as_33 rfl (lv_at hl 2 rfl) ?_
      refine q_icmp_lt (tgt := 41) hc (by omega) (by omega) d_MO_as_34 (by decide) (fun c_3 => ?_) (fun c_3 => ?_)
      · refine lv_aload_n hx hb d_MO_as_41 rfl (lv_at hl 0 rfl) ?_
        refine lv_iconst (v := nI 2) hx hb d_MO_as_42 (by decide) ?_
        refine kWV hc hw lk_MO_94 (h := 58) (As := [.int (nI 2)]) (rest := []) (c_MO_fails l D g _ 2) (rc_MO hw) ⟨Nat.le_of_ble_eq_true rfl, Nat.le_of_ble_eq_true rfl⟩ ⟨Nat.le_refl _, Nat.le_refl _⟩ rfl hl rfl (Nat.le_of_ble_eq_true rfl) d_MO_as_43 (fun v_4 g_5 F_6 H locs zhp_7 hw => ?_)
        obtain ⟨rfl, rfl, rfl⟩ := zhp_7
        exact W_i hc hw hr hlocks (by refine ⟨congrArg (fun z => some (Value.int z)) ?_, rfl, ?_, (by repeat (first | exact FrO.rf _ _ _ | refine FrO.up ?_ (by omega) (by omega)))⟩; (unfold s_as; (try simp only [inN, rng, zj0_t, zj0_e, zj1_t, zj1_e]); (repeat' split) <;> first | (exfalso; omega) | contradiction | rfl); (unfold s_as; (try simp only [inN, rng, zj0_t, zj0_e, zj1_t, zj1_e]); (repeat' split) <;> first | (exfalso; omega) | contradiction | exact MI_ft (MI_ft hMI _) _)) d_MO_as_46
      · refine lv_iconst (v := nI 1) hx hb d_MO_as_37 (by decide) ?_
        refine lv_goto (tgt := 46) hx hb d_MO_as_38 (by decide) ?_
        exact W_i hc hw hr hlocks (by refine ⟨congrArg (fun z => some (Value.int z)) ?_, rfl, ?_, (by repeat (first | exact FrO.rf _ _ _ | refine FrO.up ?_ (by omega) (by omega)))⟩; (unfold s_as; (try simp only [inN, rng, zj0_t, zj0_e, zj1_t, zj1_e]); (repeat' split) <;> first | (exfalso; omega) | contradiction | rfl); (unfold s_as; (try simp only [inN, rng, zj0_t, zj0_e, zj1_t, zj1_e]); (repeat' split) <;> first | (exfalso; omega) | contradiction | exact MI_ft hMI _)) d_MO_as_46
    · try unfold rng at c_2
      refine lv_bipush (v := (-2)) hx hb d_MO_as_24 (by decide) ?_
      exact W_i hc hw hr hlocks (by refine ⟨congrArg (fun z => some (Value.int z)) ?_, rfl, ?_, (by repeat (first | exact FrO.rf _ _ _ | refine FrO.up ?_ (by omega) (by omega)))⟩; (unfold s_as; (try simp only [inN, rng, zj0_t, zj0_e]); (repeat' split) <;> first | (exfalso; omega) | contradiction | rfl); (unfold s_as; (try simp only [inN, rng, zj0_t, zj0_e]); (repeat' split) <;> first | (exfalso; omega) | contradiction | exact MI_ft hMI _)) d_MO_as_26
  · try unfold inN at c_1
    refine lv_iconst (v := (-1)) hx hb d_MO_as_13 (by decide) ?_
    exact W_i hc hw hr hlocks (by refine ⟨congrArg (fun z => some (Value.int z)) ?_, rfl, ?_, (by repeat (first | exact FrO.rf _ _ _ | refine FrO.up ?_ (by omega) (by omega)))⟩; (unfold s_as; (try simp only [inN, rng]); (repeat' split) <;> first | (exfalso; omega) | contradiction | rfl); (unfold s_as; (try simp only [inN, rng]); (repeat' split) <;> first | (exfalso; omega) | contradiction | exact MI_ft hMI _)) d_MO_as_14
