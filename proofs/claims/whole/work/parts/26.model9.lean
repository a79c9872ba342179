/-! printed by wip/gen/meths15.py: the model, course -/
/-- the weight of letter k of a course; 0: nobody writes it -/
def cwt (K lf : Nat → Nat) (lw fine a b n : Nat) : Nat → Nat
  | 0 => (tT0 K lf lw fine a b n).2.2
  | k + 1 => if cwt K lf lw fine a b n k = 0 then 0 else (tT K lf lw fine a b n (n - (k + 1)) (cwt K lf lw fine a b n k)).2.2
def lsw (cw : Nat → Nat) : Nat → Nat
  | 0 => 0
  | j + 1 => cw j
def cmn (cw : Nat → Nat) : Nat → Nat
  | 0 => 0
  | j + 1 => if cw j = 0 then cmn cw j else j + 1
theorem cmn_at {cw : Nat → Nat} {k : Nat} (h1 : ∀ j, j < k → cw j ≠ 0) : ∀ n, k ≤ n → (∀ j, k ≤ j → j < n → cw j = 0) → cmn cw n = k := by
  intro n
  induction n with
  | zero => intro h _; show 0 = k; omega
  | succ n ih =>
    intro h h2
    unfold cmn
    rcases (show k = n + 1 ∨ k ≤ n by omega) with e | e
    · rw [if_neg (h1 n (by omega)), e]
    · rw [if_pos (h2 n e (by omega))]; exact ih e (fun j a b => h2 j a (by omega))
theorem tbs_w {x : Nat} {f : Nat → Nat × Nat} (m : Nat) : (tbs (x, 0, 0) f m).2.2 ≤ m := by
  rcases tbs_or (st := (x, 0, 0)) (f := f) m with h | ⟨w, h1, h2, h3⟩
  · rw [h]; exact Nat.zero_le _
  · rw [h3]; exact h2
theorem cwt_le {K lf : Nat → Nat} {lw fine a b n : Nat} : ∀ j, cwt K lf lw fine a b n j ≤ lf (wh a b j) := by
  intro j
  cases j with
  | zero => exact tbs_w _
  | succ j =>
    unfold cwt
    split
    · exact Nat.zero_le _
    · by_cases h : j + 1 < n
      · rw [tT_s h]; exact tbs_w _
      · rw [show n - (j + 1) = 0 by omega]; exact Nat.zero_le _
theorem cwt_z {K lf : Nat → Nat} {lw fine a b n k : Nat} (h : cwt K lf lw fine a b n k = 0) : ∀ j, k ≤ j → cwt K lf lw fine a b n j = 0 := by
  intro j hj
  induction j with
  | zero =>
    have e : k = 0 := by omega
    subst e
    exact h
  | succ j ih =>
    rcases (show k = j + 1 ∨ k ≤ j by omega) with e | e
    · rw [← e]; exact h
    · unfold cwt; rw [if_pos (ih e)]
theorem wh_2 (a b j : Nat) : wh a b (j + 1 + 1) = wh a b j := by unfold wh; rw [show (j + 1 + 1) % 2 = j % 2 by omega]
def s_course (K : Nat → Nat) (P : PSt) (lw : Nat) (x y n f q : Int32) : Int32 := if (inN x P.1 ∧ inN y P.1 ∧ ¬ x.toInt = y.toInt) ∧ -1 ≤ q.toInt then (if rng n 1 8 ∧ rng f 0 999 then (if q.toInt = -1 then nI (cmn (cwt K P.2 lw (tn f) (tn x) (tn y) (tn n)) (tn n)) else if q.toInt < (tn n : Int) ∧ cwt K P.2 lw (tn f) (tn x) (tn y) (tn n) (tn q) ≠ 0 then nI (cwt K P.2 lw (tn f) (tn x) (tn y) (tn n) (tn q)) else -9) else -2) else -1
set_option maxHeartbeats 4000000 in
theorem c_MO_course (l : Launch) (D : va_G) (g : wG) (F : wF) (pc : Nat) (lf : Nat → Nat) (lw : Nat) (cn : Nat) (fr to hv dy : Nat → Nat) (an af : Nat → Option Nat) (ln : Nat → Option Nat) (sz : Nat → Nat) (ce : Nat → Nat → Int32) (tr ft : Int32) (hG : GI g (pc, lf) lw (cn, fr, to, hv, dy, an, af) (ln, sz, ce)) (hMI : MI g F (pc, lf) lw (cn, fr, to, hv, dy, an, af) (ln, sz, ce) tr ft) (zp0 zp1 zp2 zp3 zp4 : Int32) : CW l y_MO_course b_MO_course 8 (Option.some Jvm.ClassFile.FieldType.int) 5 0 0 D g F [.ref (wad g 58), .int zp0, .int zp1, .int zp2, .int zp3, .int zp4] (fun v g2 u => v = some (.int (s_course (wK g) (pc, lf) lw zp0 zp1 zp2 zp3 zp4)) ∧ g = g2 ∧ MI g u (pc, lf) lw (cn, fr, to, hv, dy, an, af) (ln, sz, ce) tr ft ∧ FrO 58 78 F u) := by
  refine CW.start rfl (Nat.le_of_ble_eq_true rfl) ?_
  intro p e s m args below meth c A ls hc hr hlocks hw hl
  have hl : lv_has ls 8 [(0, .ref (wad g 58)), (1, .int zp0), (2, .int zp1), (3, .int zp2), (4, .int zp3), (5, .int zp4)] := hl
  have hx := hc.1
  have hb := hc.2.1
  obtain ⟨hpc6, hpcm, hm6, hpc0, hper⟩ : PI g pc lf := hG.1
  have hlw : lw ≤ 2 := hG.2.1
  have hI : LI pc cn fr to hv dy an af := hG.2.2.1
  have hcn := hI.1
  have hSI : SI ln sz := hG.2.2.2
  have hPM : PM g F pc lf := hMI.1
  have hM : LM F cn fr to hv dy an af := hMI.2.2.1
  have hSM : SM F ln sz ce := hMI.2.2.2.1
  have hK : ∀ q, q < pc → F 62 q = nI (wK g q) ∧ wK g q ≤ 2 := fun q hq => ⟨(hPM.2 q hq).1, (hper q hq).1⟩
  refine lv_aload_n hx hb d_MO_course_0 rfl (lv_at hl 0 rfl) ?_
  refine lv_iload_n hx hb d_MO_course_1 rfl (lv_at hl 1 rfl) ?_
  refine lv_iload_n hx hb d_MO_course_2 rfl (lv_at hl 2 rfl) ?_
  refine kRV hc hw lk_MO_168 (As := [.int zp0, .int zp1]) (rest := []) (c_MO_areTwo l D g _ pc (hPM.1) hpc6 (zp0) (zp1)) (rc_MO hw) ⟨Nat.le_of_ble_eq_true rfl, Nat.le_of_ble_eq_true rfl⟩ ⟨Nat.le_refl _, Nat.le_refl _⟩ rfl hl rfl (Nat.le_of_ble_eq_true rfl) d_MO_course_3 ?_
  refine b_if_eq (tgt := 15) hc d_MO_course_6 (by decide) (fun c_1 => ?_) (fun c_1 => ?_)
  · refine lv_iconst (v := (-1)) hx hb d_MO_course_15 (by decide) ?_
    exact W_i hc hw hr hlocks (by refine ⟨congrArg (fun z => some (Value.int z)) ?_, rfl, hMI, (by repeat (first | exact FrO.rf _ _ _ | refine FrO.up ?_ (by omega) (by omega)))⟩; unfold s_course; (try simp only [inN, rng]); (repeat' split) <;> first | (exfalso; omega) | contradiction | rfl) d_MO_course_16
  · obtain ⟨hA1, hA2, hA3⟩ := c_1
    obtain ⟨zj0, rfl, zj0_1⟩ := inN_nat hA1
    have zj0_e := nI_tI (j := zj0) (by omega)
    have zj0_t := tn_nI (j := zj0) (by omega)
    obtain ⟨zj1, rfl, zj1_1⟩ := inN_nat hA2
    have zj1_e := nI_tI (j := zj1) (by omega)
    have zj1_t := tn_nI (j := zj1) (by omega)
    refine lv_iload hx hb d_MO_course_9 (lv_at hl 5 rfl) ?_
    refine lv_iconst (v := (-1)) hx hb d_MO_course_11 (by decide) ?_
    refine u_icmp_ge (tgt := 17) (X := (zp4).toInt) (Y := (-1)) hc (rfl) (by decide) d_MO_course_12 (by decide) (fun c_2 => ?_) (fun c_2 => ?_)
    · refine lv_iload_n hx hb d_MO_course_17 rfl (lv_at hl 3 rfl) ?_
      refine lv_iconst (v := nI 1) hx hb d_MO_course_18 (by decide) ?_
      refine lv_bipush (v := nI 8) hx hb d_MO_course_19 (by decide) ?_
      refine kRS hc hw lk_MO_76 (As := [.int zp2, .int (nI 1), .int (nI 8)]) (rest := []) (c_MO_within l D g _ (zp2) (nI 1) (nI 8) 1 8 (by decide) (by decide)) ⟨Nat.le_of_ble_eq_true rfl, Nat.le_of_ble_eq_true rfl⟩ ⟨Nat.le_refl _, Nat.le_refl _⟩ rfl hl rfl (Nat.le_of_ble_eq_true rfl) d_MO_course_21 ?_
      refine b_if_eq (tgt := 39) hc d_MO_course_24 (by decide) (fun c_3 => ?_) (fun c_3 => ?_)
      · try unfold rng at c_3
        refine lv_bipush (v := (-2)) hx hb d_MO_course_39 (by decide) ?_
        exact W_i hc hw hr hlocks (by refine ⟨congrArg (fun z => some (Value.int z)) ?_, rfl, hMI, (by repeat (first | exact FrO.rf _ _ _ | refine FrO.up ?_ (by omega) (by omega)))⟩; unfold s_course; (try simp only [inN, rng, zj0_t, zj0_e, zj1_t, zj1_e]); (repeat' split) <;> first | (exfalso; omega) | contradiction | rfl) d_MO_course_41
      · obtain ⟨zj2, rfl, zj2_1, zj2_2⟩ := rng_nat c_3 (by decide)
        have zj2_e := nI_tI (j := zj2) (by omega)
        have zj2_t := tn_nI (j := zj2) (by omega)
        try unfold rng at c_3
        refine lv_iload hx hb d_MO_course_27 (lv_at hl 4 rfl) ?_
        refine lv_iconst (v := nI 0) hx hb d_MO_course_29 (by decide) ?_
        refine lv_sipush (v := nI 999) hx hb d_MO_course_30 (by decide) ?_
        refine kRS hc hw lk_MO_76 (As := [.int zp3, .int (nI 0), .int (nI 999)]) (rest := []) (c_MO_within l D g _ (zp3) (nI 0) (nI 999) 0 999 (by decide) (by decide)) ⟨Nat.le_of_ble_eq_true rfl, Nat.le_of_ble_eq_true rfl⟩ ⟨Nat.le_refl _, Nat.le_refl _⟩ rfl hl rfl (Nat.le_of_ble_eq_true rfl) d_MO_course_33 ?_
        refine b_if_ne (tgt := 42) hc d_MO_course_36 (by decide) (fun c_4 => ?_) (fun c_4 => ?_)
        · obtain ⟨zj3, rfl, zj3_1, zj3_2⟩ := rng_nat c_4 (by decide)
          have zj3_e := nI_tI (j := zj3) (by omega)
          have zj3_t := tn_nI (j := zj3) (by omega)
          try unfold rng at c_4
          refine lv_aload_n hx hb d_MO_course_42 rfl (lv_at hl 0 rfl) ?_
          refine lv_iload_n hx hb d_MO_course_43 rfl (lv_at hl 1 rfl) ?_
          refine lv_iload_n hx hb d_MO_course_44 rfl (lv_at hl 2 rfl) ?_
          refine lv_iload_n hx hb d_MO_course_45 rfl (lv_at hl 3 rfl) ?_
          refine lv_iload hx hb d_MO_course_46 (lv_at hl 4 rfl) ?_
          refine kWV hc hw lk_MO_172 (h := 58) (As := [.int (nI zj0), .int (nI zj1), .int (nI zj2), .int (nI zj3)]) (rest := []) (c_MO_layCourse l D g _ pc lf lw hG.1 hPM hlw hMI.2.1 zj0 zj1 zj2 zj3 (by omega) (by omega) (by omega) (by omega) (by omega)) (rc_MO hw) ⟨Nat.le_of_ble_eq_true rfl, Nat.le_of_ble_eq_true rfl⟩ ⟨Nat.le_refl _, Nat.le_refl _⟩ rfl hl rfl (Nat.le_of_ble_eq_true rfl) d_MO_course_48 (fun v_5 g_6 F_7 H locs zhp_8 hw => ?_)
          obtain ⟨rfl, rfl, hlr, hl0, zhF1⟩ := zhp_8
          have hw76 : ∀ k, k < zj2 → (∀ j, j < k → (cwt (wK g) lf lw zj3 zj0 zj1 zj2) j ≠ 0) → F_7 76 (41 * k + lsw (cwt (wK g) lf lw zj3 zj0 zj1 zj2) k) = nI ((cwt (wK g) lf lw zj3 zj0 zj1 zj2) k) := by
            intro k hk hkk
            cases k with
            | zero => exact hl0.2.2
            | succ k =>
              have h0 := hkk k (by omega)
              have h1 := cwt_le (K := wK g) (lf := lf) (lw := lw) (fine := zj3) (a := zj0) (b := zj1) (n := zj2) k
              rw [← wh_2] at h1
              refine (hlr (k + 1) (by omega) (by omega) ((cwt (wK g) lf lw zj3 zj0 zj1 zj2) k) (by omega) h1).2.2.trans (congrArg nI ?_)
              show _ = (if _ then _ else _)
              rw [if_neg h0]
          have hc40 : ∀ k, lsw (cwt (wK g) lf lw zj3 zj0 zj1 zj2) k ≤ 40 := by
            intro k
            cases k with
            | zero => exact Nat.zero_le _
            | succ k =>
              have h1 := cwt_le (K := wK g) (lf := lf) (lw := lw) (fine := zj3) (a := zj0) (b := zj1) (n := zj2) k
              rcases wh_or zj0 zj1 k with e | e
              · rw [e] at h1; exact Nat.le_trans h1 (hper zj0 (by omega)).2.2
              · rw [e] at h1; exact Nat.le_trans h1 (hper zj1 (by omega)).2.2
          refine lv_iconst (v := nI 0) hx hb d_MO_course_51 (by decide) ?_
          refine lv_istore (lv' := [(6, .int (nI 0)), (0, .ref (wad g 58)), (1, .int (nI zj0)), (2, .int (nI zj1)), (3, .int (nI zj2)), (4, .int (nI zj3)), (5, .int zp4)]) hx hb d_MO_course_52 hl (by decide) rfl (fun ls hl => ?_)
          refine lv_iconst (v := nI 0) hx hb d_MO_course_54 (by decide) ?_
          refine lv_istore (lv' := [(7, .int (nI 0)), (6, .int (nI 0)), (0, .ref (wad g 58)), (1, .int (nI zj0)), (2, .int (nI zj1)), (3, .int (nI zj2)), (4, .int (nI zj3)), (5, .int zp4)]) hx hb d_MO_course_55 hl (by decide) rfl (fun ls hl => ?_)
          have loop_57 : ∀ (n_57 : Nat) (k : Nat)  (H : Heap) (locs : List Loc) (ls : Array Slot), (zj2 - k) < n_57 → (k ≤ zj2) → (∀ j, j < k → (cwt (wK g) lf lw zj3 zj0 zj1 zj2) j ≠ 0) → (∀ j : Nat, j < k → (j : Int) ≠ zp4.toInt) → Wd D g F_7 A s.heap H locs s → lv_has ls 8 [(0, .ref (wad g 58)), (1, .int (nI zj0)), (2, .int (nI zj1)), (3, .int (nI zj2)), (4, .int (nI zj3)), (5, .int zp4), (6, .int (nI k)), (7, .int (nI (lsw (cwt (wK g) lf lw zj3 zj0 zj1 zj2) k)))] → W p l e (rmc 5 0 0) s m args below meth c H locs 0 0 (MQ below (Qw (fun v g2 u => v = some (.int (s_course (wK g) (pc, lf) lw (nI zj0) (nI zj1) (nI zj2) (nI zj3) zp4)) ∧ g = g2 ∧ MI g u (pc, lf) lw (cn, fr, to, hv, dy, an, af) (ln, sz, ce) tr ft ∧ FrO 58 78 F u) (Bw D A) A) args s 0 0 A) (F0 m 57 ls []) := by
            intro n_57
            induction n_57 with
            | zero => intro k  H locs ls hm; exact absurd hm (Nat.not_lt_zero _)
            | succ n_57 ih_57 =>
              intro k  H locs ls hm_57 hk hkz hkq hw hl
              have hk40 := hc40 k
              refine lv_iload hx hb d_MO_course_57 (lv_at hl 6 rfl) ?_
              refine lv_iload_n hx hb d_MO_course_59 rfl (lv_at hl 3 rfl) ?_
              refine q_icmp_ge (tgt := 108) hc (by omega) (by omega) d_MO_course_60 (by decide) (fun c_9 => ?_) (fun c_9 => ?_)
              · refine lv_iload hx hb d_MO_course_108 (lv_at hl 5 rfl) ?_
                refine lv_iconst (v := (-1)) hx hb d_MO_course_110 (by decide) ?_
                refine u_icmp_ne (tgt := 119) (X := (zp4).toInt) (Y := (-1)) hc (rfl) (by decide) d_MO_course_111 (by decide) (fun c_10 => ?_) (fun c_10 => ?_)
                · refine lv_bipush (v := (-9)) hx hb d_MO_course_119 (by decide) ?_
                  exact W_i hc hw hr hlocks (by refine ⟨congrArg (fun z => some (Value.int z)) ?_, rfl, MI_x hMI (fun k i h => zhF1 k i (by omega) (by omega) (by omega)), (fun h hh => funext fun i => zhF1 h i (by omega) (by omega) (by omega))⟩; unfold s_course; rw [if_pos (by simp only [inN]; omega), if_pos (by simp only [rng]; omega)]; simp only [zj0_t, zj1_t, zj2_t, zj3_t]; rw [if_neg (by omega), if_neg (fun h => by have h9 := h.1; have zhq1 : zp4.toInt = (tn zp4 : Int) := (by unfold tn; omega); rcases (show tn zp4 < k ∨ k ≤ tn zp4 by omega) with e | e; exact absurd zhq1.symm (hkq _ e); first | (exfalso; omega) | exact h.2 (cwt_z (k := k) (by omega) _ e))]) d_MO_course_121
                · refine lv_iload hx hb d_MO_course_114 (lv_at hl 6 rfl) ?_
                  refine lv_goto (tgt := 121) hx hb d_MO_course_116 (by decide) ?_
                  exact W_i hc hw hr hlocks (by refine ⟨congrArg (fun z => some (Value.int z)) ?_, rfl, MI_x hMI (fun k i h => zhF1 k i (by omega) (by omega) (by omega)), (fun h hh => funext fun i => zhF1 h i (by omega) (by omega) (by omega))⟩; unfold s_course; rw [if_pos (by simp only [inN]; omega), if_pos (by simp only [rng]; omega)]; simp only [zj0_t, zj1_t, zj2_t, zj3_t]; rw [if_pos (by omega), cmn_at hkz zj2 (by omega) (fun j h1 h2 => cwt_z (k := k) (by omega) j h1)]) d_MO_course_121
              · refine lv_aload_n hx hb d_MO_course_63 rfl (lv_at hl 0 rfl) ?_
                refine gf_MO_61 hc hw d_MO_course_64 ?_
                refine lv_iload hx hb d_MO_course_67 (lv_at hl 6 rfl) ?_
                refine lv_iload hx hb d_MO_course_69 (lv_at hl 7 rfl) ?_
                refine kRS hc hw lk_MO_160 (As := [.int (nI k), .int (nI (lsw (cwt (wK g) lf lw zj3 zj0 zj1 zj2) k))]) (rest := [.ref (wad g 76)]) (c_MO_spot l D g _ (k) (lsw (cwt (wK g) lf lw zj3 zj0 zj1 zj2) k)) ⟨Nat.le_of_ble_eq_true rfl, Nat.le_of_ble_eq_true rfl⟩ ⟨Nat.le_refl _, Nat.le_refl _⟩ rfl hl rfl (Nat.le_of_ble_eq_true rfl) d_MO_course_71 ?_
                refine r_iald hc hw (h := 76) (n := 369) (i := 41 * k + (lsw (cwt (wK g) lf lw zj3 zj0 zj1 zj2) k)) (fun _ => rfl) (by omega) (by omega) (by decide) d_MO_course_74 (v := .int (nI ((cwt (wK g) lf lw zj3 zj0 zj1 zj2) k))) (congrArg Value.int (hw76 k (by omega) hkz)) ?_
                refine q_if_le (tgt := 108) hc (Nat.lt_of_le_of_lt (hc40 (k + 1)) (by decide)) d_MO_course_75 (by decide) (fun c_11 => ?_) (fun c_11 => ?_)
                · refine lv_iload hx hb d_MO_course_108 (lv_at hl 5 rfl) ?_
                  refine lv_iconst (v := (-1)) hx hb d_MO_course_110 (by decide) ?_
                  refine u_icmp_ne (tgt := 119) (X := (zp4).toInt) (Y := (-1)) hc (rfl) (by decide) d_MO_course_111 (by decide) (fun c_12 => ?_) (fun c_12 => ?_)
                  · refine lv_bipush (v := (-9)) hx hb d_MO_course_119 (by decide) ?_
                    exact W_i hc hw hr hlocks (by refine ⟨congrArg (fun z => some (Value.int z)) ?_, rfl, MI_x hMI (fun k i h => zhF1 k i (by omega) (by omega) (by omega)), (fun h hh => funext fun i => zhF1 h i (by omega) (by omega) (by omega))⟩; unfold s_course; rw [if_pos (by simp only [inN]; omega), if_pos (by simp only [rng]; omega)]; simp only [zj0_t, zj1_t, zj2_t, zj3_t]; rw [if_neg (by omega), if_neg (fun h => by have h9 := h.1; have zhq1 : zp4.toInt = (tn zp4 : Int) := (by unfold tn; omega); rcases (show tn zp4 < k ∨ k ≤ tn zp4 by omega) with e | e; exact absurd zhq1.symm (hkq _ e); first | (exfalso; omega) | exact h.2 (cwt_z (k := k) (by omega) _ e))]) d_MO_course_121
                  · refine lv_iload hx hb d_MO_course_114 (lv_at hl 6 rfl) ?_
                    refine lv_goto (tgt := 121) hx hb d_MO_course_116 (by decide) ?_
                    exact W_i hc hw hr hlocks (by refine ⟨congrArg (fun z => some (Value.int z)) ?_, rfl, MI_x hMI (fun k i h => zhF1 k i (by omega) (by omega) (by omega)), (fun h hh => funext fun i => zhF1 h i (by omega) (by omega) (by omega))⟩; unfold s_course; rw [if_pos (by simp only [inN]; omega), if_pos (by simp only [rng]; omega)]; simp only [zj0_t, zj1_t, zj2_t, zj3_t]; rw [if_pos (by omega), cmn_at hkz zj2 (by omega) (fun j h1 h2 => cwt_z (k := k) (by omega) j h1)]) d_MO_course_121
                · refine lv_aload_n hx hb d_MO_course_78 rfl (lv_at hl 0 rfl) ?_
                  refine gf_MO_61 hc hw d_MO_course_79 ?_
                  refine lv_iload hx hb d_MO_course_82 (lv_at hl 6 rfl) ?_
                  refine lv_iload hx hb d_MO_course_84 (lv_at hl 7 rfl) ?_
                  refine kRS hc hw lk_MO_160 (As := [.int (nI k), .int (nI (lsw (cwt (wK g) lf lw zj3 zj0 zj1 zj2) k))]) (rest := [.ref (wad g 76)]) (c_MO_spot l D g _ (k) (lsw (cwt (wK g) lf lw zj3 zj0 zj1 zj2) k)) ⟨Nat.le_of_ble_eq_true rfl, Nat.le_of_ble_eq_true rfl⟩ ⟨Nat.le_refl _, Nat.le_refl _⟩ rfl hl rfl (Nat.le_of_ble_eq_true rfl) d_MO_course_86 ?_
                  refine r_iald hc hw (h := 76) (n := 369) (i := 41 * k + (lsw (cwt (wK g) lf lw zj3 zj0 zj1 zj2) k)) (fun _ => rfl) (by omega) (by omega) (by decide) d_MO_course_89 (v := .int (nI ((cwt (wK g) lf lw zj3 zj0 zj1 zj2) k))) (congrArg Value.int (hw76 k (by omega) hkz)) ?_
                  refine lv_istore (lv' := [(7, .int (nI ((cwt (wK g) lf lw zj3 zj0 zj1 zj2) k))), (0, .ref (wad g 58)), (1, .int (nI zj0)), (2, .int (nI zj1)), (3, .int (nI zj2)), (4, .int (nI zj3)), (5, .int zp4), (6, .int (nI k))]) hx hb d_MO_course_90 hl (by decide) rfl (fun ls hl => ?_)
                  refine lv_iload hx hb d_MO_course_92 (lv_at hl 7 rfl) ?_
                  refine lv_iload hx hb d_MO_course_94 (lv_at hl 6 rfl) ?_
                  refine u_icmp_ne (tgt := 102) (X := ((k : Nat) : Int)) (Y := (zp4).toInt) hc (nI_tI (by omega)) (rfl) d_MO_course_96 (by decide) (fun c_13 => ?_) (fun c_13 => ?_)
                  · refine lv_iinc (v := nI (k + 1)) (lv' := [(6, .int (nI (k + 1))), (7, .int (nI ((cwt (wK g) lf lw zj3 zj0 zj1 zj2) k))), (0, .ref (wad g 58)), (1, .int (nI zj0)), (2, .int (nI zj1)), (3, .int (nI zj2)), (4, .int (nI zj3)), (5, .int zp4)]) hx hb d_MO_course_102 hl (k := 7) rfl (nI_inc1 _) (by decide) rfl (fun ls hl => ?_)
                    refine lv_goto (tgt := 57) hx hb d_MO_course_105 (by decide) ?_
                    have hl : lv_has ls 8 [(6, .int (nI (k + 1))), (7, .int (nI (lsw (cwt (wK g) lf lw zj3 zj0 zj1 zj2) (k + 1)))), (0, .ref (wad g 58)), (1, .int (nI zj0)), (2, .int (nI zj1)), (3, .int (nI zj2)), (4, .int (nI zj3)), (5, .int zp4)] := by rw [show lsw (cwt (wK g) lf lw zj3 zj0 zj1 zj2) (k + 1) = (cwt (wK g) lf lw zj3 zj0 zj1 zj2) k from by rfl]; exact hl
                    exact ih_57 (k + 1) _ _ _ (by omega) (by omega) (fun j hj => by rcases (show j < k ∨ j = k by omega) with e | e; exact hkz j e; (rw [e]; omega)) (fun j hj => by rcases (show j < k ∨ j = k by omega) with e | e; exact hkq j e; (rw [e]; assumption)) hw (lv_sub hl [2, 3, 4, 5, 6, 7, 0, 1] rfl)
                  · refine lv_iload hx hb d_MO_course_99 (lv_at hl 0 rfl) ?_
                    exact W_i hc hw hr hlocks (by refine ⟨congrArg (fun z => some (Value.int z)) ?_, rfl, MI_x hMI (fun k i h => zhF1 k i (by omega) (by omega) (by omega)), (fun h hh => funext fun i => zhF1 h i (by omega) (by omega) (by omega))⟩; unfold s_course; rw [if_pos (by simp only [inN]; omega), if_pos (by simp only [rng]; omega)]; simp only [zj0_t, zj1_t, zj2_t, zj3_t]; rw [if_neg (by omega), show tn zp4 = k from (by unfold tn; omega), if_pos ⟨by omega, by omega⟩]) d_MO_course_101
          have hl : lv_has ls 8 [(7, .int (nI (lsw (cwt (wK g) lf lw zj3 zj0 zj1 zj2) 0))), (6, .int (nI 0)), (0, .ref (wad g 58)), (1, .int (nI zj0)), (2, .int (nI zj1)), (3, .int (nI zj2)), (4, .int (nI zj3)), (5, .int zp4)] := by rw [show lsw (cwt (wK g) lf lw zj3 zj0 zj1 zj2) 0 = 0 from by rfl]; exact hl
          exact loop_57 _ 0 _ _ _ (Nat.lt_succ_self _) (by omega) (fun j hj => absurd hj (Nat.not_lt_zero j)) (fun j hj => absurd hj (Nat.not_lt_zero j)) hw (lv_sub hl [2, 3, 4, 5, 6, 7, 1, 0] rfl)
        · try unfold rng at c_4
          refine lv_bipush (v := (-2)) hx hb d_MO_course_39 (by decide) ?_
          exact W_i hc hw hr hlocks (by refine ⟨congrArg (fun z => some (Value.int z)) ?_, rfl, hMI, (by repeat (first | exact FrO.rf _ _ _ | refine FrO.up ?_ (by omega) (by omega)))⟩; unfold s_course; (try simp only [inN, rng, zj0_t, zj0_e, zj1_t, zj1_e, zj2_t, zj2_e]); (repeat' split) <;> first | (exfalso; omega) | contradiction | rfl) d_MO_course_41
    · refine lv_iconst (v := (-1)) hx hb d_MO_course_15 (by decide) ?_
      exact W_i hc hw hr hlocks (by refine ⟨congrArg (fun z => some (Value.int z)) ?_, rfl, hMI, (by repeat (first | exact FrO.rf _ _ _ | refine FrO.up ?_ (by omega) (by omega)))⟩; unfold s_course; (try simp only [inN, rng, zj0_t, zj0_e, zj1_t, zj1_e]); (repeat' split) <;> first | (exfalso; omega) | contradiction | rfl) d_MO_course_16
