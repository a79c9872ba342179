/-! printed by wip/gen/meths19.py: groups, the model: settled -/
theorem b_sb : ∀ z, z < 64 → ∀ t, t < 64 → t &&& z = t → ∀ q, q < 6 → t.testBit q = true → z.testBit q = true := by decide +kernel
theorem b_bor : ∀ p, p < 6 → ∀ z, z < 2 ^ p → (z + 2 ^ p).testBit p = true ∧ ∀ q, q < 6 → q < p → (z + 2 ^ p).testBit q = z.testBit q := by decide +kernel
theorem i_z {x : Int32} : x.toInt = 0 ↔ x = 0 := ⟨fun h => Int32.toInt_inj.mp (h.trans (by decide)), fun h => by rw [h]; decide⟩
def mk (nn : Nat → Int32) (p z : Nat) : Int32 := sX nn (Nat.testBit z) p
theorem mk_y {nn : Nat → Int32} {p z : Nat} (h : z.testBit p = true) : mk nn (p + 1) z = mk nn p z + nn p := by show _ + (if _ then _ else _) = _; rw [if_pos h]; rfl
theorem mk_n {nn : Nat → Int32} {p z : Nat} (h : ¬ z.testBit p = true) : mk nn (p + 1) z = mk nn p z + 0 := by show _ + (if _ then _ else _) = _; rw [if_neg h]; rfl
theorem mk_0 {nn : Nat → Int32} {p z : Nat} (h : p = 0) : mk nn p z = 0 := by rw [h]; rfl
/-- the persons whose net is not 0, as bits -/
def sbm (nn : Nat → Int32) : Nat → Nat
  | 0 => 0
  | p + 1 => if nn p = 0 then sbm nn p else sbm nn p + 2 ^ p
theorem sbm_z {nn : Nat → Int32} {n : Nat} (h : nn n = 0) : sbm nn (n + 1) = sbm nn n := by show (if _ then _ else _) = _; rw [if_pos h]
theorem sbm_n {nn : Nat → Int32} {n : Nat} (h : ¬ nn n = 0) : sbm nn (n + 1) = sbm nn n + 2 ^ n := by show (if _ then _ else _) = _; rw [if_neg h]
theorem sbm_lt {nn : Nat → Int32} : ∀ n, sbm nn n < 2 ^ n := by
  intro n
  induction n with
  | zero => exact Nat.one_pos
  | succ n ih =>
    rw [Nat.pow_succ]
    unfold sbm
    split <;> omega
theorem sbm_bit {nn : Nat → Int32} : ∀ n, n ≤ 6 → ∀ q, q < n → (sbm nn n).testBit q = nzX nn q := by
  intro n
  induction n with
  | zero => intro _ q hq; exact absurd hq (Nat.not_lt_zero _)
  | succ n ih =>
    intro hn q hq
    have hb := b_bor n (by omega) (sbm nn n) (sbm_lt n)
    by_cases h : nn n = 0
    · rw [sbm_z h]
      rcases (show q < n ∨ q = n by omega) with e | e
      · exact ih (by omega) q e
      · subst e
        unfold nzX
        rw [decide_eq_true h]
        cases hz : (sbm nn q).testBit q
        · rfl
        · exact absurd (b_hi q (by omega) _ (sbm_lt q) q (by omega) hz) (Nat.lt_irrefl _)
    · rw [sbm_n h]
      rcases (show q < n ∨ q = n by omega) with e | e
      · rw [hb.2 q (by omega) e]; exact ih (by omega) q e
      · subst e
        unfold nzX
        rw [decide_eq_false h, hb.1]; rfl
theorem pw6 {n : Nat} (h : n ≤ 6) : 1 ≤ 2 ^ n ∧ 2 ^ n ≤ 64 := ⟨Nat.one_le_two_pow, Nat.le_trans (Nat.pow_le_pow_right (by decide) h) (by decide)⟩
theorem EN_0 {nn : Nat → Int32} {n : Nat} : EN nn n (Nat.testBit 0) (some 0) := by
  have hz : ∀ q, q < n → Nat.testBit 0 q = false := fun q _ => Nat.zero_testBit q
  refine ⟨fun v h => (by cases h; exact hz), fun v hv => ⟨0, rfl, ?_⟩⟩
  exact (FM_0 (nn := nn) hz).2 _ v (fun _ _ h => h) hv
theorem PP_step {nn : Nat → Int32} {n z a r : Nat} (hn : n ≤ 6) (hz : z < 2 ^ n) (ha : a &&& z = a) (haz : a ≤ z) (h0 : 0 < a) (hs : mk nn n a = 0) (hr : PPp nn n r (Nat.testBit (z - a))) : PPp nn n (r + 1) (Nat.testBit z) := by
  have h64 := (pw6 hn).2
  obtain ⟨q, hq, hb⟩ := b_nz a (by omega) h0
  refine ⟨Nat.testBit a, fun q hq h => b_sb z (by omega) a (by omega) ha q (by omega) h, ⟨q, b_hi n (by omega) a (by omega) q hq hb, hb⟩, hs, PPp_c r (fun q hq => (b_sub z (by omega) a (by omega) ha).2 q (by omega)) hr⟩
/-- what a set's entry holds when the parts above a are looked through -/
def CU (nn : Nat → Int32) (n : Nat) (en : Nat → Option Nat) (z a : Nat) (cu : Option Nat) : Prop := (∀ v, cu = some v → PPp nn n v (Nat.testBit z)) ∧ ∀ t, 0 < t → t ≤ z → t &&& z = t → a < t → mk nn n t = 0 → ∀ r, en (z - t) = some r → ∃ v, cu = some v ∧ r + 1 ≤ v
theorem CU_0 {nn : Nat → Int32} {n : Nat} {en : Nat → Option Nat} {z : Nat} : CU nn n en z z none := ⟨fun v h => (by cases h), fun t _ h2 _ h4 => absurd h4 (by omega)⟩
theorem CU_s {nn : Nat → Int32} {n : Nat} {en : Nat → Option Nat} {z a b : Nat} {cu cv : Option Nat} (h : CU nn n en z a cu) (hb : ∀ t, t < a → t &&& z = t → t ≤ b) (h1 : ∀ v, cv = some v → PPp nn n v (Nat.testBit z)) (h2 : ∀ v, cu = some v → ∃ w, cv = some w ∧ v ≤ w) (h3 : mk nn n a = 0 → ∀ r, en (z - a) = some r → ∃ v, cv = some v ∧ r + 1 ≤ v) : CU nn n en z b cv := by
  refine ⟨h1, fun t t1 t2 t3 t4 t5 r hr => ?_⟩
  rcases (show t < a ∨ t = a ∨ a < t by omega) with q | q | q
  · have := hb t q t3; omega
  · subst q; exact h3 t5 r hr
  · obtain ⟨v, e, hv⟩ := h.2 t t1 t2 t3 q t5 r hr
    obtain ⟨w, e2, hw⟩ := h2 v e
    exact ⟨w, e2, by omega⟩
theorem b_mk6 (Y : Nat → Bool) : ∃ t, t < 64 ∧ ∀ q, q < 6 → t.testBit q = Y q := by
  obtain ⟨h1, h2⟩ := b_mk (Y 0) (Y 1) (Y 2) (Y 3) (Y 4) (Y 5)
  refine ⟨_, h1, fun q hq => ?_⟩
  rw [h2 q hq]
  rcases (show q = 0 ∨ q = 1 ∨ q = 2 ∨ q = 3 ∨ q = 4 ∨ q = 5 by omega) with e | e | e | e | e | e <;> subst e <;> rfl
theorem EN_of {nn : Nat → Int32} {n : Nat} {en : Nat → Option Nat} {z : Nat} {cu : Option Nat} (hn : n ≤ 6) (hz : z < 2 ^ n) (hz1 : 1 ≤ z) (h : CU nn n en z 0 cu) (he : ∀ w, w < z → EN nn n (Nat.testBit w) (en w)) : EN nn n (Nat.testBit z) cu := by
  have h64 := (pw6 hn).2
  refine ⟨h.1, fun v hv => ?_⟩
  cases v with
  | zero =>
    obtain ⟨q, hq, hb⟩ := b_nz z (by omega) hz1
    have := hv q (b_hi n (by omega) z hz q hq hb)
    rw [hb] at this
    exact absurd this (by decide)
  | succ v =>
    obtain ⟨Y, y1, ⟨q, hq, hy⟩, y3, y4⟩ := hv
    obtain ⟨t, t1, t2⟩ := b_mk6 (fun q => Y q && decide (q < n))
    have tY : ∀ q, q < n → t.testBit q = Y q := fun q hq => by
      rw [t2 q (by omega), decide_eq_true hq, Bool.and_true]
    have tz : t &&& z = t := b_sbt z (by omega) t t1 (fun q hq hb => by
      have h9 := t2 q hq
      rw [hb] at h9
      by_cases e : q < n
      · exact y1 q e (by rw [← tY q e]; exact hb)
      · rw [decide_eq_false e, Bool.and_false] at h9; exact absurd h9.symm (by decide))
    obtain ⟨s1, s2⟩ := b_sub z (by omega) t t1 tz
    have t0 : 0 < t := by
      rcases (show t = 0 ∨ 0 < t by omega) with e | e
      · have := tY q hq
        rw [e, Nat.zero_testBit, hy] at this
        exact absurd this (by decide)
      · exact e
    have hs : mk nn n t = 0 := (sX_c n tY).trans y3
    obtain ⟨r, e, hr⟩ := (he (z - t) (by omega)).2 v (PPp_c v (fun q hq => by rw [s2 q (by omega), tY q hq]; rfl) y4)
    obtain ⟨w, e2, hw⟩ := h.2 t t0 s1 tz t0 hs r e
    exact ⟨w, e2, by omega⟩
def nnS (K : Nat → Nat) (L : LSt) (d : Nat) : Nat → Int32 := fun p => Lnt K L p d
noncomputable def s_settled (K : Nat → Nat) (P : PSt) (L : LSt) (x : Int32) : Int32 := if rng x 0 99 then (if P.1 = 0 then -3 else nI (cz (nnS K L (tn x)) P.1) - nI (mxv (fun v => PPp (nnS K L (tn x)) P.1 v (nzX (nnS K L (tn x)))))) else -2
theorem nn_tot {g : wG} {pc cn : Nat} {fr to hv dy : Nat → Nat} {an af : Nat → Option Nat} (hI : LI pc cn fr to hv dy an af) (d : Nat) : sX (nnS (wK g) (cn, fr, to, hv, dy, an, af) d) (nzX (nnS (wK g) (cn, fr, to, hv, dy, an, af) d)) pc = 0 :=
  (sX_nz pc).trans (nt_tot (sc := lsc g fr hv) cn (fun j hj => ⟨(hI.2 j hj).1.1, (hI.2 j hj).1.2.1, (hI.2 j hj).1.2.2.1⟩))
set_option maxHeartbeats 4000000 in
theorem c_MO_settled (l : Launch) (D : va_G) (g : wG) (F : wF) (pc : Nat) (lf : Nat → Nat) (lw : Nat) (cn : Nat) (fr to hv dy : Nat → Nat) (an af : Nat → Option Nat) (ln : Nat → Option Nat) (sz : Nat → Nat) (ce : Nat → Nat → Int32) (tr ft : Int32) (hG : GI g (pc, lf) lw (cn, fr, to, hv, dy, an, af) (ln, sz, ce)) (hMI : MI g F (pc, lf) lw (cn, fr, to, hv, dy, an, af) (ln, sz, ce) tr ft) (zp0 : Int32) : CW l y_MO_settled b_MO_settled 8 (Option.some Jvm.ClassFile.FieldType.int) 5 0 0 D g F [.ref (wad g 58), .int zp0] (fun v g2 u => v = some (.int (s_settled (wK g) (pc, lf) (cn, fr, to, hv, dy, an, af) zp0)) ∧ g = g2 ∧ MI g u (pc, lf) lw (cn, fr, to, hv, dy, an, af) (ln, sz, ce) tr ft ∧ FrO 58 78 F u) := by
  refine CW.start rfl (Nat.le_of_ble_eq_true rfl) ?_
  intro p e s m args below meth c A ls hc hr hlocks hw hl
  have hl : lv_has ls 8 [(0, .ref (wad g 58)), (1, .int zp0)] := hl
  have hx := hc.1
  have hb := hc.2.1
  obtain ⟨hpc6, hpcm, hm6, hpcq, hper⟩ : PI g pc lf := hG.1
  have hlw : lw ≤ 2 := hG.2.1
  have hI : LI pc cn fr to hv dy an af := hG.2.2.1
  have hcn := hI.1
  have hSI : SI ln sz := hG.2.2.2
  have hPM : PM g F pc lf := hMI.1
  have hM : LM F cn fr to hv dy an af := hMI.2.2.1
  have hSM : SM F ln sz ce := hMI.2.2.2.1
  have hK : ∀ q, q < pc → F 62 q = nI (wK g q) ∧ wK g q ≤ 2 := fun q hq => ⟨(hPM.2 q hq).1, (hper q hq).1⟩
  have hp2 := pw6 hpc6
  refine lv_iload_n hx hb d_MO_settled_0 rfl (lv_at hl 1 rfl) ?_
  refine kRS hc hw lk_MO_123 (As := [.int zp0]) (rest := []) (c_MO_isDay l D g _ (zp0)) ⟨Nat.le_of_ble_eq_true rfl, Nat.le_of_ble_eq_true rfl⟩ ⟨Nat.le_refl _, Nat.le_refl _⟩ rfl hl rfl (Nat.le_of_ble_eq_true rfl) d_MO_settled_1 ?_
  refine b_if_ne (tgt := 10) hc d_MO_settled_4 (by decide) (fun c_1 => ?_) (fun c_1 => ?_)
  · obtain ⟨zj0, rfl, zj0_1, zj0_2⟩ := rng_nat c_1 (by decide)
    have zj0_e := nI_tI (j := zj0) (by omega)
    have zj0_t := tn_nI (j := zj0) (by omega)
    try unfold rng at c_1
    refine lv_aload_n hx hb d_MO_settled_10 rfl (lv_at hl 0 rfl) ?_
    refine gf_MO_80 hc hw d_MO_settled_11 (v := .int (nI pc)) (congrArg Value.int (hPM.1)) ?_
    refine q_if_ne (tgt := 20) hc (by omega) d_MO_settled_14 (by decide) (fun c_2 => ?_) (fun c_2 => ?_)
    · have hpc0 : ¬ pc = 0 := c_2
      refine lv_iconst (v := nI 1) hx hb d_MO_settled_20 (by decide) ?_
      refine lv_aload_n hx hb d_MO_settled_21 rfl (lv_at hl 0 rfl) ?_
      refine gf_MO_80 hc hw d_MO_settled_22 (v := .int (nI pc)) (congrArg Value.int (hPM.1)) ?_
      refine lv_ishl hx hb d_MO_settled_25 ?_
      rw [b_shl (pc) (by omega)]
      refine lv_iconst (v := nI 1) hx hb d_MO_settled_26 (by decide) ?_
      refine q_isub hc (by omega) d_MO_settled_27 ?_
      refine lv_istore_n (lv' := [(2, .int (nI ((2 ^ pc) - 1))), (0, .ref (wad g 58)), (1, .int (nI zj0))]) hx hb d_MO_settled_28 rfl hl (by decide) rfl (fun ls hl => ?_)
      refine lv_iconst (v := nI 0) hx hb d_MO_settled_29 (by decide) ?_
      refine lv_istore_n (lv' := [(3, .int (nI 0)), (2, .int (nI ((2 ^ pc) - 1))), (0, .ref (wad g 58)), (1, .int (nI zj0))]) hx hb d_MO_settled_30 rfl hl (by decide) rfl (fun ls hl => ?_)
      refine lv_iconst (v := nI 0) hx hb d_MO_settled_31 (by decide) ?_
      refine lv_istore (lv' := [(4, .int (nI 0)), (3, .int (nI 0)), (2, .int (nI ((2 ^ pc) - 1))), (0, .ref (wad g 58)), (1, .int (nI zj0))]) hx hb d_MO_settled_32 hl (by decide) rfl (fun ls hl => ?_)
      refine lv_iconst (v := nI 0) hx hb d_MO_settled_34 (by decide) ?_
      refine lv_istore (lv' := [(5, .int (nI 0)), (4, .int (nI 0)), (3, .int (nI 0)), (2, .int (nI ((2 ^ pc) - 1))), (0, .ref (wad g 58)), (1, .int (nI zj0))]) hx hb d_MO_settled_35 hl (by decide) rfl (fun ls hl => ?_)
      have loop_37 : ∀ (n_37 : Nat) (pj : Nat) (F1 : wF) (H : Heap) (locs : List Loc) (ls : Array Slot), (pc - pj) < n_37 → (pj ≤ pc) → (pj ≠ 0 → ∀ w, w < 2 ^ pc → F1 72 w = mk (nnS (wK g) (cn, fr, to, hv, dy, an, af) zj0) pj w) → (∀ k i, k ≠ 72 → F1 k i = F k i) → Wd D g F1 A s.heap H locs s → lv_has ls 8 [(0, .ref (wad g 58)), (1, .int (nI zj0)), (2, .int (nI ((2 ^ pc) - 1))), (3, .int (nI (cz (nnS (wK g) (cn, fr, to, hv, dy, an, af) zj0) pj))), (4, .int (nI (sbm (nnS (wK g) (cn, fr, to, hv, dy, an, af) zj0) pj))), (5, .int (nI pj))] → W p l e (rmc 5 0 0) s m args below meth c H locs 0 0 (MQ below (Qw (fun v g2 u => v = some (.int (s_settled (wK g) (pc, lf) (cn, fr, to, hv, dy, an, af) (nI zj0))) ∧ g = g2 ∧ MI g u (pc, lf) lw (cn, fr, to, hv, dy, an, af) (ln, sz, ce) tr ft ∧ FrO 58 78 F u) (Bw D A) A) args s 0 0 A) (F0 m 37 ls []) := by
        intro n_37
        induction n_37 with
        | zero => intro pj F1 H locs ls hm; exact absurd hm (Nat.not_lt_zero _)
        | succ n_37 ih_37 =>
          intro pj F1 H locs ls hm_37 hp hmk zhF1 hw hl
          have hczl := cz_le (nn := (nnS (wK g) (cn, fr, to, hv, dy, an, af) zj0)) pj
          have hsb := sbm_lt (nn := (nnS (wK g) (cn, fr, to, hv, dy, an, af) zj0)) pj
          have hpp : pj ≠ pc → 2 ^ pj ≤ 32 := fun h => Nat.le_trans (Nat.pow_le_pow_right (by decide) (show pj ≤ 5 by omega)) (by decide)
          have hsp2 : 2 ^ pj ≤ 2 ^ pc := Nat.pow_le_pow_right (by decide) (by omega)
          refine lv_iload hx hb d_MO_settled_37 (lv_at hl 5 rfl) ?_
          refine lv_aload_n hx hb d_MO_settled_39 rfl (lv_at hl 0 rfl) ?_
          refine gf_MO_80 hc hw d_MO_settled_40 (v := .int (nI pc)) (congrArg Value.int ((zhF1 58 5 (by decide)).trans hPM.1)) ?_
          refine q_icmp_ge (tgt := 148) hc (by omega) (by omega) d_MO_settled_43 (by decide) (fun c_3 => ?_) (fun c_3 => ?_)
          · have hpe : pj = pc := by omega
            rw [hpe] at hmk
            refine lv_aload_n hx hb d_MO_settled_148 rfl (lv_at hl 0 rfl) ?_
            refine gf_MO_52 hc hw d_MO_settled_149 ?_
            refine lv_iconst (v := nI 0) hx hb d_MO_settled_152 (by decide) ?_
            refine lv_iconst (v := nI 0) hx hb d_MO_settled_153 (by decide) ?_
            refine r_iast hc hw (h := 73) (n := 64) (i := 0) (fun _ => rfl) (by omega) (by omega) (by decide) d_MO_settled_154 (fun H locs hw => ?_)
            refine lv_iconst (v := nI 1) hx hb d_MO_settled_155 (by decide) ?_
            refine lv_istore (lv' := [(5, .int (nI 1)), (0, .ref (wad g 58)), (1, .int (nI zj0)), (2, .int (nI ((2 ^ pc) - 1))), (3, .int (nI (cz (nnS (wK g) (cn, fr, to, hv, dy, an, af) zj0) pj))), (4, .int (nI (sbm (nnS (wK g) (cn, fr, to, hv, dy, an, af) zj0) pj)))]) hx hb d_MO_settled_156 hl (by decide) rfl (fun ls hl => ?_)
            have loop_158 : ∀ (n_158 : Nat) (z : Nat) (en : Nat → Option Nat) (F3 : wF) (H : Heap) (locs : List Loc) (ls : Array Slot), (2 ^ pc - z) < n_158 → (1 ≤ z) → (z ≤ 2 ^ pc) → (∀ w, w < z → F3 73 w = oI (en w) ∧ EN (nnS (wK g) (cn, fr, to, hv, dy, an, af) zj0) pc (Nat.testBit w) (en w) ∧ ∀ v, en w = some v → v ≤ w) → (∀ w, w < 2 ^ pc → F3 72 w = mk (nnS (wK g) (cn, fr, to, hv, dy, an, af) zj0) pc w) → (∀ k i, k ≠ 72 → k ≠ 73 → F3 k i = F k i) → Wd D g F3 A s.heap H locs s → lv_has ls 8 [(0, .ref (wad g 58)), (1, .int (nI zj0)), (2, .int (nI ((2 ^ pc) - 1))), (3, .int (nI (cz (nnS (wK g) (cn, fr, to, hv, dy, an, af) zj0) pj))), (4, .int (nI (sbm (nnS (wK g) (cn, fr, to, hv, dy, an, af) zj0) pj))), (5, .int (nI z))] → W p l e (rmc 5 0 0) s m args below meth c H locs 0 0 (MQ below (Qw (fun v g2 u => v = some (.int (s_settled (wK g) (pc, lf) (cn, fr, to, hv, dy, an, af) (nI zj0))) ∧ g = g2 ∧ MI g u (pc, lf) lw (cn, fr, to, hv, dy, an, af) (ln, sz, ce) tr ft ∧ FrO 58 78 F u) (Bw D A) A) args s 0 0 A) (F0 m 158 ls []) := by
              intro n_158
              induction n_158 with
              | zero => intro z en F3 H locs ls hm; exact absurd hm (Nat.not_lt_zero _)
              | succ n_158 ih_158 =>
                intro z en F3 H locs ls hm_158 hz1 hz hen hmk3 zhF3 hw hl
                refine lv_iload hx hb d_MO_settled_158 (lv_at hl 5 rfl) ?_
                refine lv_iload_n hx hb d_MO_settled_160 rfl (lv_at hl 2 rfl) ?_
                refine q_icmp_gt (tgt := 264) hc (by omega) (by omega) d_MO_settled_161 (by decide) (fun c_4 => ?_) (fun c_4 => ?_)
                · refine lv_iload_n hx hb d_MO_settled_264 rfl (lv_at hl 3 rfl) ?_
                  refine lv_aload_n hx hb d_MO_settled_265 rfl (lv_at hl 0 rfl) ?_
                  refine gf_MO_52 hc hw d_MO_settled_266 ?_
                  refine lv_iload hx hb d_MO_settled_269 (lv_at hl 4 rfl) ?_
                  refine r_iald hc hw (h := 73) (n := 64) (i := sbm (nnS (wK g) (cn, fr, to, hv, dy, an, af) zj0) pj) (fun _ => rfl) (by omega) (by omega) (by decide) d_MO_settled_271 (v := .int (nI (mxv (fun v => PPp (nnS (wK g) (cn, fr, to, hv, dy, an, af) zj0) pc v (nzX (nnS (wK g) (cn, fr, to, hv, dy, an, af) zj0)))))) (congrArg Value.int ((hen _ (by omega)).1.trans (by rw [mx_model (nn_tot hI zj0) (fun q hq => by rw [hpe]; exact sbm_bit pc hpc6 q hq) (hen _ (by omega)).2.1]; rfl))) ?_
                  refine lv_isub hx hb d_MO_settled_272 ?_
                  exact W_i hc hw hr hlocks (by refine ⟨congrArg (fun z => some (Value.int z)) ?_, rfl, MI_x hMI (fun k i h => zhF3 k i (by omega) (by omega)), fun h hh => funext fun i => zhF3 h i (by omega) (by omega)⟩; unfold s_settled; rw [if_pos (by simp only [rng]; omega), if_neg hpc0, zj0_t, hpe]; try rfl) d_MO_settled_273
                · refine lv_aload_n hx hb d_MO_settled_164 rfl (lv_at hl 0 rfl) ?_
                  refine gf_MO_52 hc hw d_MO_settled_165 ?_
                  refine lv_iload hx hb d_MO_settled_168 (lv_at hl 5 rfl) ?_
                  refine lv_bipush (v := (-9)) hx hb d_MO_settled_170 (by decide) ?_
                  refine r_iast hc hw (h := 73) (n := 64) (i := z) (fun _ => rfl) (by omega) (by omega) (by decide) d_MO_settled_172 (fun H locs hw => ?_)
                  refine lv_iload hx hb d_MO_settled_173 (lv_at hl 5 rfl) ?_
                  refine lv_istore (lv' := [(6, .int (nI z)), (0, .ref (wad g 58)), (1, .int (nI zj0)), (2, .int (nI ((2 ^ pc) - 1))), (3, .int (nI (cz (nnS (wK g) (cn, fr, to, hv, dy, an, af) zj0) pj))), (4, .int (nI (sbm (nnS (wK g) (cn, fr, to, hv, dy, an, af) zj0) pj))), (5, .int (nI z))]) hx hb d_MO_settled_175 hl (by decide) rfl (fun ls hl => ?_)
                  have loop_177 : ∀ (n_177 : Nat) (a : Nat) (cu : Option Nat) (F4 : wF) (H : Heap) (locs : List Loc) (ls : Array Slot), (a) < n_177 → (a ≤ z) → (a &&& z = a) → (F4 73 z = oI cu) → (∀ v, cu = some v → v ≤ z) → (CU (nnS (wK g) (cn, fr, to, hv, dy, an, af) zj0) pc en z a cu) → (∀ k i, ¬ (k = 73 ∧ i = z) → F4 k i = F3 k i) → Wd D g F4 A s.heap H locs s → lv_has ls 8 [(0, .ref (wad g 58)), (1, .int (nI zj0)), (2, .int (nI ((2 ^ pc) - 1))), (3, .int (nI (cz (nnS (wK g) (cn, fr, to, hv, dy, an, af) zj0) pj))), (4, .int (nI (sbm (nnS (wK g) (cn, fr, to, hv, dy, an, af) zj0) pj))), (5, .int (nI z)), (6, .int (nI a))] → W p l e (rmc 5 0 0) s m args below meth c H locs 0 0 (MQ below (Qw (fun v g2 u => v = some (.int (s_settled (wK g) (pc, lf) (cn, fr, to, hv, dy, an, af) (nI zj0))) ∧ g = g2 ∧ MI g u (pc, lf) lw (cn, fr, to, hv, dy, an, af) (ln, sz, ce) tr ft ∧ FrO 58 78 F u) (Bw D A) A) args s 0 0 A) (F0 m 177 ls []) := by
                    intro n_177
                    induction n_177 with
                    | zero => intro a cu F4 H locs ls hm; exact absurd hm (Nat.not_lt_zero _)
                    | succ n_177 ih_177 =>
                      intro a cu F4 H locs ls hm_177 haa haz hcu hcz hCU hF4 hw hl
                      refine lv_iload hx hb d_MO_settled_177 (lv_at hl 6 rfl) ?_
                      rcases cu with _ | v
                      · refine q_if_le (tgt := 258) hc (by omega) d_MO_settled_179 (by decide) (fun c_5 => ?_) (fun c_5 => ?_)
                        · refine lv_iinc (v := nI (z + 1)) (lv' := [(5, .int (nI (z + 1))), (0, .ref (wad g 58)), (1, .int (nI zj0)), (2, .int (nI ((2 ^ pc) - 1))), (3, .int (nI (cz (nnS (wK g) (cn, fr, to, hv, dy, an, af) zj0) pj))), (4, .int (nI (sbm (nnS (wK g) (cn, fr, to, hv, dy, an, af) zj0) pj))), (6, .int (nI a))]) hx hb d_MO_settled_258 hl (k := 5) rfl (nI_inc1 _) (by decide) rfl (fun ls hl => ?_)
                          refine lv_goto (tgt := 158) hx hb d_MO_settled_261 (by decide) ?_
                          exact ih_158 (z + 1) (fun w => if w = z then none else en w) _ _ _ _ (by omega) (by omega) (by omega) (fun w hw => by rcases (show w < z ∨ w = z by omega) with e9 | e9; (rw [if_neg (by omega), hF4 73 w (by omega)]; exact hen w e9); (rw [if_pos e9, e9]; exact ⟨hcu, EN_of hpc6 (by omega) (by omega) (by have e0 : a = 0 := (by omega); rw [e0] at hCU; exact hCU) (fun w hw => (hen w hw).2.1), hcz⟩)) (fun w hw => (hF4 72 w (by omega)).trans (hmk3 w hw)) (fun k i h1 h2 => (hF4 k i (by omega)).trans (zhF3 k i h1 h2)) hw (lv_sub hl [1, 2, 3, 4, 5, 0] rfl)
                        · have hnx := b_nx2 z (by omega) a (by omega) (by omega)
                          have hnb := b_next z (by omega) a (by omega) haz
                          refine lv_aload_n hx hb d_MO_settled_182 rfl (lv_at hl 0 rfl) ?_
                          refine gf_MO_52 hc hw d_MO_settled_183 ?_
                          refine lv_iload hx hb d_MO_settled_186 (lv_at hl 5 rfl) ?_
                          refine lv_iload hx hb d_MO_settled_188 (lv_at hl 6 rfl) ?_
                          refine q_isub hc (by omega) d_MO_settled_190 ?_
                          refine r_iald hc hw (h := 73) (n := 64) (i := z - a) (fun _ => rfl) (by omega) (by omega) (by decide) d_MO_settled_191 (v := .int (oI (en (z - a)))) (congrArg Value.int ((hF4 73 (z - a) (by omega)).trans (hen (z - a) (by omega)).1)) ?_
                          rcases ho : en (z - a) with _ | r
                          · refine lv_istore (lv' := [(7, .int ((-9))), (0, .ref (wad g 58)), (1, .int (nI zj0)), (2, .int (nI ((2 ^ pc) - 1))), (3, .int (nI (cz (nnS (wK g) (cn, fr, to, hv, dy, an, af) zj0) pj))), (4, .int (nI (sbm (nnS (wK g) (cn, fr, to, hv, dy, an, af) zj0) pj))), (5, .int (nI z)), (6, .int (nI a))]) hx hb d_MO_settled_192 hl (by decide) rfl (fun ls hl => ?_)
                            refine lv_aload_n hx hb d_MO_settled_194 rfl (lv_at hl 1 rfl) ?_
                            refine gf_MO_52 hc hw d_MO_settled_195 ?_
                            refine lv_iload hx hb d_MO_settled_198 (lv_at hl 6 rfl) ?_
                            refine lv_aload_n hx hb d_MO_settled_200 rfl (lv_at hl 1 rfl) ?_
                            refine gf_MO_49 hc hw d_MO_settled_201 ?_
                            refine lv_iload hx hb d_MO_settled_204 (lv_at hl 7 rfl) ?_
                            refine r_iald hc hw (h := 72) (n := 64) (i := a) (fun _ => rfl) (by omega) (by omega) (by decide) d_MO_settled_206 (v := .int (mk (nnS (wK g) (cn, fr, to, hv, dy, an, af) zj0) pc a)) (congrArg Value.int ((hF4 72 a (by omega)).trans (hmk3 a (by omega)))) ?_
                            refine u_if_ne (tgt := 238) (X := (mk (nnS (wK g) (cn, fr, to, hv, dy, an, af) zj0) pc a).toInt) hc (rfl) d_MO_settled_207 (by decide) (fun c_6 => ?_) (fun c_6 => ?_)
                            · have hm1 : ¬ mk (nnS (wK g) (cn, fr, to, hv, dy, an, af) zj0) pc a = 0 := fun h => c_6 (i_z.mpr h)
                              refine lv_aload_n hx hb d_MO_settled_238 rfl (lv_at hl 1 rfl) ?_
                              refine gf_MO_52 hc hw d_MO_settled_239 ?_
                              refine lv_iload hx hb d_MO_settled_242 (lv_at hl 6 rfl) ?_
                              refine r_iald hc hw (h := 73) (n := 64) (i := z) (fun _ => rfl) (by omega) (by omega) (by decide) d_MO_settled_244 (v := .int ((-9))) (congrArg Value.int hcu) ?_
                              refine r_iast hc hw (h := 73) (n := 64) (i := z) (fun _ => rfl) (by omega) (by omega) (by decide) d_MO_settled_245 (fun H locs hw => ?_)
                              refine lv_iload hx hb d_MO_settled_246 (lv_at hl 7 rfl) ?_
                              refine lv_iconst (v := nI 1) hx hb d_MO_settled_248 (by decide) ?_
                              refine q_isub hc (by omega) d_MO_settled_249 ?_
                              refine lv_iload hx hb d_MO_settled_250 (lv_at hl 6 rfl) ?_
                              refine lv_iand hx hb d_MO_settled_252 ?_
                              rw [b_land (a - 1) (by omega) z (by omega)]
                              refine lv_istore (lv' := [(6, .int (nI ((a - 1) &&& z))), (7, .int ((-9))), (0, .ref (wad g 58)), (1, .int (nI zj0)), (2, .int (nI ((2 ^ pc) - 1))), (3, .int (nI (cz (nnS (wK g) (cn, fr, to, hv, dy, an, af) zj0) pj))), (4, .int (nI (sbm (nnS (wK g) (cn, fr, to, hv, dy, an, af) zj0) pj))), (5, .int (nI z))]) hx hb d_MO_settled_253 hl (by decide) rfl (fun ls hl => ?_)
                              refine lv_goto (tgt := 177) hx hb d_MO_settled_255 (by decide) ?_
                              exact ih_177 ((a - 1) &&& z) none _ _ _ _ (by omega) (by omega) (hnx.2) (u2_same _ _ _ _) (hcz) (CU_s hCU hnb hCU.1 (fun v hv => ⟨v, hv, Nat.le_refl _⟩) (fun h9 _ _ => absurd h9 hm1)) (fun k i h => (u2_ij2 h).trans (hF4 k i h)) hw (lv_sub hl [2, 3, 4, 5, 6, 7, 0] rfl)
                            · have hm0 := i_z.mp c_6
                              refine lv_iload hx hb d_MO_settled_210 (lv_at hl 0 rfl) ?_
                              refine lv_bipush (v := (-9)) hx hb d_MO_settled_212 (by decide) ?_
                              refine u_icmp_eq (tgt := 238) (X := (-9)) (Y := (-9)) hc (by decide) (by decide) d_MO_settled_214 (by decide) (fun c_7 => ?_) (fun c_7 => ?_)
                              · refine lv_aload_n hx hb d_MO_settled_238 rfl (lv_at hl 1 rfl) ?_
                                refine gf_MO_52 hc hw d_MO_settled_239 ?_
                                refine lv_iload hx hb d_MO_settled_242 (lv_at hl 6 rfl) ?_
                                refine r_iald hc hw (h := 73) (n := 64) (i := z) (fun _ => rfl) (by omega) (by omega) (by decide) d_MO_settled_244 (v := .int ((-9))) (congrArg Value.int hcu) ?_
                                refine r_iast hc hw (h := 73) (n := 64) (i := z) (fun _ => rfl) (by omega) (by omega) (by decide) d_MO_settled_245 (fun H locs hw => ?_)
                                refine lv_iload hx hb d_MO_settled_246 (lv_at hl 7 rfl) ?_
                                refine lv_iconst (v := nI 1) hx hb d_MO_settled_248 (by decide) ?_
                                refine q_isub hc (by omega) d_MO_settled_249 ?_
                                refine lv_iload hx hb d_MO_settled_250 (lv_at hl 6 rfl) ?_
                                refine lv_iand hx hb d_MO_settled_252 ?_
                                rw [b_land (a - 1) (by omega) z (by omega)]
                                refine lv_istore (lv' := [(6, .int (nI ((a - 1) &&& z))), (7, .int ((-9))), (0, .ref (wad g 58)), (1, .int (nI zj0)), (2, .int (nI ((2 ^ pc) - 1))), (3, .int (nI (cz (nnS (wK g) (cn, fr, to, hv, dy, an, af) zj0) pj))), (4, .int (nI (sbm (nnS (wK g) (cn, fr, to, hv, dy, an, af) zj0) pj))), (5, .int (nI z))]) hx hb d_MO_settled_253 hl (by decide) rfl (fun ls hl => ?_)
                                refine lv_goto (tgt := 177) hx hb d_MO_settled_255 (by decide) ?_
                                exact ih_177 ((a - 1) &&& z) none _ _ _ _ (by omega) (by omega) (hnx.2) (u2_same _ _ _ _) (hcz) (CU_s hCU hnb hCU.1 (fun v hv => ⟨v, hv, Nat.le_refl _⟩) (fun _ r9 h9 => by rw [ho] at h9; cases h9)) (fun k i h => (u2_ij2 h).trans (hF4 k i h)) hw (lv_sub hl [2, 3, 4, 5, 6, 7, 0] rfl)
                              · exact absurd c_7 (by decide)
                          · have hrz := (hen (z - a) (by omega)).2.2 r ho
                            refine lv_istore (lv' := [(7, .int (nI r)), (0, .ref (wad g 58)), (1, .int (nI zj0)), (2, .int (nI ((2 ^ pc) - 1))), (3, .int (nI (cz (nnS (wK g) (cn, fr, to, hv, dy, an, af) zj0) pj))), (4, .int (nI (sbm (nnS (wK g) (cn, fr, to, hv, dy, an, af) zj0) pj))), (5, .int (nI z)), (6, .int (nI a))]) hx hb d_MO_settled_192 hl (by decide) rfl (fun ls hl => ?_)
                            refine lv_aload_n hx hb d_MO_settled_194 rfl (lv_at hl 1 rfl) ?_
                            refine gf_MO_52 hc hw d_MO_settled_195 ?_
                            refine lv_iload hx hb d_MO_settled_198 (lv_at hl 6 rfl) ?_
                            refine lv_aload_n hx hb d_MO_settled_200 rfl (lv_at hl 1 rfl) ?_
                            refine gf_MO_49 hc hw d_MO_settled_201 ?_
                            refine lv_iload hx hb d_MO_settled_204 (lv_at hl 7 rfl) ?_
                            refine r_iald hc hw (h := 72) (n := 64) (i := a) (fun _ => rfl) (by omega) (by omega) (by decide) d_MO_settled_206 (v := .int (mk (nnS (wK g) (cn, fr, to, hv, dy, an, af) zj0) pc a)) (congrArg Value.int ((hF4 72 a (by omega)).trans (hmk3 a (by omega)))) ?_
                            refine u_if_ne (tgt := 238) (X := (mk (nnS (wK g) (cn, fr, to, hv, dy, an, af) zj0) pc a).toInt) hc (rfl) d_MO_settled_207 (by decide) (fun c_8 => ?_) (fun c_8 => ?_)
                            · have hm1 : ¬ mk (nnS (wK g) (cn, fr, to, hv, dy, an, af) zj0) pc a = 0 := fun h => c_8 (i_z.mpr h)
                              refine lv_aload_n hx hb d_MO_settled_238 rfl (lv_at hl 1 rfl) ?_
                              refine gf_MO_52 hc hw d_MO_settled_239 ?_
                              refine lv_iload hx hb d_MO_settled_242 (lv_at hl 6 rfl) ?_
                              refine r_iald hc hw (h := 73) (n := 64) (i := z) (fun _ => rfl) (by omega) (by omega) (by decide) d_MO_settled_244 (v := .int ((-9))) (congrArg Value.int hcu) ?_
                              refine r_iast hc hw (h := 73) (n := 64) (i := z) (fun _ => rfl) (by omega) (by omega) (by decide) d_MO_settled_245 (fun H locs hw => ?_)
                              refine lv_iload hx hb d_MO_settled_246 (lv_at hl 7 rfl) ?_
                              refine lv_iconst (v := nI 1) hx hb d_MO_settled_248 (by decide) ?_
                              refine q_isub hc (by omega) d_MO_settled_249 ?_
                              refine lv_iload hx hb d_MO_settled_250 (lv_at hl 6 rfl) ?_
                              refine lv_iand hx hb d_MO_settled_252 ?_
                              rw [b_land (a - 1) (by omega) z (by omega)]
                              refine lv_istore (lv' := [(6, .int (nI ((a - 1) &&& z))), (7, .int (nI r)), (0, .ref (wad g 58)), (1, .int (nI zj0)), (2, .int (nI ((2 ^ pc) - 1))), (3, .int (nI (cz (nnS (wK g) (cn, fr, to, hv, dy, an, af) zj0) pj))), (4, .int (nI (sbm (nnS (wK g) (cn, fr, to, hv, dy, an, af) zj0) pj))), (5, .int (nI z))]) hx hb d_MO_settled_253 hl (by decide) rfl (fun ls hl => ?_)
                              refine lv_goto (tgt := 177) hx hb d_MO_settled_255 (by decide) ?_
                              exact ih_177 ((a - 1) &&& z) none _ _ _ _ (by omega) (by omega) (hnx.2) (u2_same _ _ _ _) (hcz) (CU_s hCU hnb hCU.1 (fun v hv => ⟨v, hv, Nat.le_refl _⟩) (fun h9 _ _ => absurd h9 hm1)) (fun k i h => (u2_ij2 h).trans (hF4 k i h)) hw (lv_sub hl [2, 3, 4, 5, 6, 7, 0] rfl)
                            · have hm0 := i_z.mp c_8
                              refine lv_iload hx hb d_MO_settled_210 (lv_at hl 0 rfl) ?_
                              refine lv_bipush (v := (-9)) hx hb d_MO_settled_212 (by decide) ?_
                              refine u_icmp_eq (tgt := 238) (X := ((r : Nat) : Int)) (Y := (-9)) hc (nI_tI (by omega)) (by decide) d_MO_settled_214 (by decide) (fun c_9 => ?_) (fun c_9 => ?_)
                              · exact absurd c_9 (by omega)
                              · refine lv_iload hx hb d_MO_settled_217 (lv_at hl 0 rfl) ?_
                                refine lv_iconst (v := nI 1) hx hb d_MO_settled_219 (by decide) ?_
                                refine q_iadd hc d_MO_settled_220 ?_
                                refine lv_aload_n hx hb d_MO_settled_221 rfl (lv_at hl 1 rfl) ?_
                                refine gf_MO_52 hc hw d_MO_settled_222 ?_
                                refine lv_iload hx hb d_MO_settled_225 (lv_at hl 6 rfl) ?_
                                refine r_iald hc hw (h := 73) (n := 64) (i := z) (fun _ => rfl) (by omega) (by omega) (by decide) d_MO_settled_227 (v := .int ((-9))) (congrArg Value.int hcu) ?_
                                refine u_icmp_le (tgt := 238) (X := ((r + 1 : Nat) : Int)) (Y := (-9)) hc (nI_tI (by omega)) (by decide) d_MO_settled_228 (by decide) (fun c_10 => ?_) (fun c_10 => ?_)
                                · exact absurd c_10 (by omega)
                                · refine lv_iload hx hb d_MO_settled_231 (lv_at hl 0 rfl) ?_
                                  refine lv_iconst (v := nI 1) hx hb d_MO_settled_233 (by decide) ?_
                                  refine q_iadd hc d_MO_settled_234 ?_
                                  refine lv_goto (tgt := 245) hx hb d_MO_settled_235 (by decide) ?_
                                  refine r_iast hc hw (h := 73) (n := 64) (i := z) (fun _ => rfl) (by omega) (by omega) (by decide) d_MO_settled_245 (fun H locs hw => ?_)
                                  refine lv_iload hx hb d_MO_settled_246 (lv_at hl 7 rfl) ?_
                                  refine lv_iconst (v := nI 1) hx hb d_MO_settled_248 (by decide) ?_
                                  refine q_isub hc (by omega) d_MO_settled_249 ?_
                                  refine lv_iload hx hb d_MO_settled_250 (lv_at hl 6 rfl) ?_
                                  refine lv_iand hx hb d_MO_settled_252 ?_
                                  rw [b_land (a - 1) (by omega) z (by omega)]
                                  refine lv_istore (lv' := [(6, .int (nI ((a - 1) &&& z))), (7, .int (nI r)), (0, .ref (wad g 58)), (1, .int (nI zj0)), (2, .int (nI ((2 ^ pc) - 1))), (3, .int (nI (cz (nnS (wK g) (cn, fr, to, hv, dy, an, af) zj0) pj))), (4, .int (nI (sbm (nnS (wK g) (cn, fr, to, hv, dy, an, af) zj0) pj))), (5, .int (nI z))]) hx hb d_MO_settled_253 hl (by decide) rfl (fun ls hl => ?_)
                                  refine lv_goto (tgt := 177) hx hb d_MO_settled_255 (by decide) ?_
                                  exact ih_177 ((a - 1) &&& z) (some (r + 1)) _ _ _ _ (by omega) (by omega) (hnx.2) (u2_same _ _ _ _) (fun v hv => by cases hv; have := (hen (z - a) (by omega)).2.2 r ho; omega) (CU_s hCU hnb (fun v hv => by cases hv; exact PP_step hpc6 (by omega) haz (by omega) (by omega) hm0 ((hen (z - a) (by omega)).2.1.1 r ho)) (fun v hv => by first | (cases hv; done) | (cases hv; exact ⟨r + 1, rfl, by omega⟩)) (fun _ r9 h9 => by rw [ho] at h9; cases h9; exact ⟨r + 1, rfl, Nat.le_refl _⟩)) (fun k i h => (u2_ij2 h).trans (hF4 k i h)) hw (lv_sub hl [2, 3, 4, 5, 6, 7, 0] rfl)
                      · have hvz := hcz v rfl
                        refine q_if_le (tgt := 258) hc (by omega) d_MO_settled_179 (by decide) (fun c_11 => ?_) (fun c_11 => ?_)
                        · refine lv_iinc (v := nI (z + 1)) (lv' := [(5, .int (nI (z + 1))), (0, .ref (wad g 58)), (1, .int (nI zj0)), (2, .int (nI ((2 ^ pc) - 1))), (3, .int (nI (cz (nnS (wK g) (cn, fr, to, hv, dy, an, af) zj0) pj))), (4, .int (nI (sbm (nnS (wK g) (cn, fr, to, hv, dy, an, af) zj0) pj))), (6, .int (nI a))]) hx hb d_MO_settled_258 hl (k := 5) rfl (nI_inc1 _) (by decide) rfl (fun ls hl => ?_)
                          refine lv_goto (tgt := 158) hx hb d_MO_settled_261 (by decide) ?_
                          exact ih_158 (z + 1) (fun w => if w = z then (some v) else en w) _ _ _ _ (by omega) (by omega) (by omega) (fun w hw => by rcases (show w < z ∨ w = z by omega) with e9 | e9; (rw [if_neg (by omega), hF4 73 w (by omega)]; exact hen w e9); (rw [if_pos e9, e9]; exact ⟨hcu, EN_of hpc6 (by omega) (by omega) (by have e0 : a = 0 := (by omega); rw [e0] at hCU; exact hCU) (fun w hw => (hen w hw).2.1), hcz⟩)) (fun w hw => (hF4 72 w (by omega)).trans (hmk3 w hw)) (fun k i h1 h2 => (hF4 k i (by omega)).trans (zhF3 k i h1 h2)) hw (lv_sub hl [1, 2, 3, 4, 5, 0] rfl)
                        · have hnx := b_nx2 z (by omega) a (by omega) (by omega)
                          have hnb := b_next z (by omega) a (by omega) haz
                          refine lv_aload_n hx hb d_MO_settled_182 rfl (lv_at hl 0 rfl) ?_
                          refine gf_MO_52 hc hw d_MO_settled_183 ?_
                          refine lv_iload hx hb d_MO_settled_186 (lv_at hl 5 rfl) ?_
                          refine lv_iload hx hb d_MO_settled_188 (lv_at hl 6 rfl) ?_
                          refine q_isub hc (by omega) d_MO_settled_190 ?_
                          refine r_iald hc hw (h := 73) (n := 64) (i := z - a) (fun _ => rfl) (by omega) (by omega) (by decide) d_MO_settled_191 (v := .int (oI (en (z - a)))) (congrArg Value.int ((hF4 73 (z - a) (by omega)).trans (hen (z - a) (by omega)).1)) ?_
                          rcases ho : en (z - a) with _ | r
                          · refine lv_istore (lv' := [(7, .int ((-9))), (0, .ref (wad g 58)), (1, .int (nI zj0)), (2, .int (nI ((2 ^ pc) - 1))), (3, .int (nI (cz (nnS (wK g) (cn, fr, to, hv, dy, an, af) zj0) pj))), (4, .int (nI (sbm (nnS (wK g) (cn, fr, to, hv, dy, an, af) zj0) pj))), (5, .int (nI z)), (6, .int (nI a))]) hx hb d_MO_settled_192 hl (by decide) rfl (fun ls hl => ?_)
                            refine lv_aload_n hx hb d_MO_settled_194 rfl (lv_at hl 1 rfl) ?_
                            refine gf_MO_52 hc hw d_MO_settled_195 ?_
                            refine lv_iload hx hb d_MO_settled_198 (lv_at hl 6 rfl) ?_
                            refine lv_aload_n hx hb d_MO_settled_200 rfl (lv_at hl 1 rfl) ?_
                            refine gf_MO_49 hc hw d_MO_settled_201 ?_
                            refine lv_iload hx hb d_MO_settled_204 (lv_at hl 7 rfl) ?_
                            refine r_iald hc hw (h := 72) (n := 64) (i := a) (fun _ => rfl) (by omega) (by omega) (by decide) d_MO_settled_206 (v := .int (mk (nnS (wK g) (cn, fr, to, hv, dy, an, af) zj0) pc a)) (congrArg Value.int ((hF4 72 a (by omega)).trans (hmk3 a (by omega)))) ?_
                            refine u_if_ne (tgt := 238) (X := (mk (nnS (wK g) (cn, fr, to, hv, dy, an, af) zj0) pc a).toInt) hc (rfl) d_MO_settled_207 (by decide) (fun c_12 => ?_) (fun c_12 => ?_)
                            · have hm1 : ¬ mk (nnS (wK g) (cn, fr, to, hv, dy, an, af) zj0) pc a = 0 := fun h => c_12 (i_z.mpr h)
                              refine lv_aload_n hx hb d_MO_settled_238 rfl (lv_at hl 1 rfl) ?_
                              refine gf_MO_52 hc hw d_MO_settled_239 ?_
                              refine lv_iload hx hb d_MO_settled_242 (lv_at hl 6 rfl) ?_
                              refine r_iald hc hw (h := 73) (n := 64) (i := z) (fun _ => rfl) (by omega) (by omega) (by decide) d_MO_settled_244 (v := .int (nI v)) (congrArg Value.int hcu) ?_
                              refine r_iast hc hw (h := 73) (n := 64) (i := z) (fun _ => rfl) (by omega) (by omega) (by decide) d_MO_settled_245 (fun H locs hw => ?_)
                              refine lv_iload hx hb d_MO_settled_246 (lv_at hl 7 rfl) ?_
                              refine lv_iconst (v := nI 1) hx hb d_MO_settled_248 (by decide) ?_
                              refine q_isub hc (by omega) d_MO_settled_249 ?_
                              refine lv_iload hx hb d_MO_settled_250 (lv_at hl 6 rfl) ?_
                              refine lv_iand hx hb d_MO_settled_252 ?_
                              rw [b_land (a - 1) (by omega) z (by omega)]
                              refine lv_istore (lv' := [(6, .int (nI ((a - 1) &&& z))), (7, .int ((-9))), (0, .ref (wad g 58)), (1, .int (nI zj0)), (2, .int (nI ((2 ^ pc) - 1))), (3, .int (nI (cz (nnS (wK g) (cn, fr, to, hv, dy, an, af) zj0) pj))), (4, .int (nI (sbm (nnS (wK g) (cn, fr, to, hv, dy, an, af) zj0) pj))), (5, .int (nI z))]) hx hb d_MO_settled_253 hl (by decide) rfl (fun ls hl => ?_)
                              refine lv_goto (tgt := 177) hx hb d_MO_settled_255 (by decide) ?_
                              exact ih_177 ((a - 1) &&& z) (some v) _ _ _ _ (by omega) (by omega) (hnx.2) (u2_same _ _ _ _) (hcz) (CU_s hCU hnb hCU.1 (fun v hv => ⟨v, hv, Nat.le_refl _⟩) (fun h9 _ _ => absurd h9 hm1)) (fun k i h => (u2_ij2 h).trans (hF4 k i h)) hw (lv_sub hl [2, 3, 4, 5, 6, 7, 0] rfl)
                            · have hm0 := i_z.mp c_12
                              refine lv_iload hx hb d_MO_settled_210 (lv_at hl 0 rfl) ?_
                              refine lv_bipush (v := (-9)) hx hb d_MO_settled_212 (by decide) ?_
                              refine u_icmp_eq (tgt := 238) (X := (-9)) (Y := (-9)) hc (by decide) (by decide) d_MO_settled_214 (by decide) (fun c_13 => ?_) (fun c_13 => ?_)
                              · refine lv_aload_n hx hb d_MO_settled_238 rfl (lv_at hl 1 rfl) ?_
                                refine gf_MO_52 hc hw d_MO_settled_239 ?_
                                refine lv_iload hx hb d_MO_settled_242 (lv_at hl 6 rfl) ?_
                                refine r_iald hc hw (h := 73) (n := 64) (i := z) (fun _ => rfl) (by omega) (by omega) (by decide) d_MO_settled_244 (v := .int (nI v)) (congrArg Value.int hcu) ?_
                                refine r_iast hc hw (h := 73) (n := 64) (i := z) (fun _ => rfl) (by omega) (by omega) (by decide) d_MO_settled_245 (fun H locs hw => ?_)
                                refine lv_iload hx hb d_MO_settled_246 (lv_at hl 7 rfl) ?_
                                refine lv_iconst (v := nI 1) hx hb d_MO_settled_248 (by decide) ?_
                                refine q_isub hc (by omega) d_MO_settled_249 ?_
                                refine lv_iload hx hb d_MO_settled_250 (lv_at hl 6 rfl) ?_
                                refine lv_iand hx hb d_MO_settled_252 ?_
                                rw [b_land (a - 1) (by omega) z (by omega)]
                                refine lv_istore (lv' := [(6, .int (nI ((a - 1) &&& z))), (7, .int ((-9))), (0, .ref (wad g 58)), (1, .int (nI zj0)), (2, .int (nI ((2 ^ pc) - 1))), (3, .int (nI (cz (nnS (wK g) (cn, fr, to, hv, dy, an, af) zj0) pj))), (4, .int (nI (sbm (nnS (wK g) (cn, fr, to, hv, dy, an, af) zj0) pj))), (5, .int (nI z))]) hx hb d_MO_settled_253 hl (by decide) rfl (fun ls hl => ?_)
                                refine lv_goto (tgt := 177) hx hb d_MO_settled_255 (by decide) ?_
                                exact ih_177 ((a - 1) &&& z) (some v) _ _ _ _ (by omega) (by omega) (hnx.2) (u2_same _ _ _ _) (hcz) (CU_s hCU hnb hCU.1 (fun v hv => ⟨v, hv, Nat.le_refl _⟩) (fun _ r9 h9 => by rw [ho] at h9; cases h9)) (fun k i h => (u2_ij2 h).trans (hF4 k i h)) hw (lv_sub hl [2, 3, 4, 5, 6, 7, 0] rfl)
                              · exact absurd c_13 (by decide)
                          · have hrz := (hen (z - a) (by omega)).2.2 r ho
                            refine lv_istore (lv' := [(7, .int (nI r)), (0, .ref (wad g 58)), (1, .int (nI zj0)), (2, .int (nI ((2 ^ pc) - 1))), (3, .int (nI (cz (nnS (wK g) (cn, fr, to, hv, dy, an, af) zj0) pj))), (4, .int (nI (sbm (nnS (wK g) (cn, fr, to, hv, dy, an, af) zj0) pj))), (5, .int (nI z)), (6, .int (nI a))]) hx hb d_MO_settled_192 hl (by decide) rfl (fun ls hl => ?_)
                            refine lv_aload_n hx hb d_MO_settled_194 rfl (lv_at hl 1 rfl) ?_
                            refine gf_MO_52 hc hw d_MO_settled_195 ?_
                            refine lv_iload hx hb d_MO_settled_198 (lv_at hl 6 rfl) ?_
                            refine lv_aload_n hx hb d_MO_settled_200 rfl (lv_at hl 1 rfl) ?_
                            refine gf_MO_49 hc hw d_MO_settled_201 ?_
                            refine lv_iload hx hb d_MO_settled_204 (lv_at hl 7 rfl) ?_
                            refine r_iald hc hw (h := 72) (n := 64) (i := a) (fun _ => rfl) (by omega) (by omega) (by decide) d_MO_settled_206 (v := .int (mk (nnS (wK g) (cn, fr, to, hv, dy, an, af) zj0) pc a)) (congrArg Value.int ((hF4 72 a (by omega)).trans (hmk3 a (by omega)))) ?_
                            refine u_if_ne (tgt := 238) (X := (mk (nnS (wK g) (cn, fr, to, hv, dy, an, af) zj0) pc a).toInt) hc (rfl) d_MO_settled_207 (by decide) (fun c_14 => ?_) (fun c_14 => ?_)
                            · have hm1 : ¬ mk (nnS (wK g) (cn, fr, to, hv, dy, an, af) zj0) pc a = 0 := fun h => c_14 (i_z.mpr h)
                              refine lv_aload_n hx hb d_MO_settled_238 rfl (lv_at hl 1 rfl) ?_
                              refine gf_MO_52 hc hw d_MO_settled_239 ?_
                              refine lv_iload hx hb d_MO_settled_242 (lv_at hl 6 rfl) ?_
                              refine r_iald hc hw (h := 73) (n := 64) (i := z) (fun _ => rfl) (by omega) (by omega) (by decide) d_MO_settled_244 (v := .int (nI v)) (congrArg Value.int hcu) ?_
                              refine r_iast hc hw (h := 73) (n := 64) (i := z) (fun _ => rfl) (by omega) (by omega) (by decide) d_MO_settled_245 (fun H locs hw => ?_)
                              refine lv_iload hx hb d_MO_settled_246 (lv_at hl 7 rfl) ?_
                              refine lv_iconst (v := nI 1) hx hb d_MO_settled_248 (by decide) ?_
                              refine q_isub hc (by omega) d_MO_settled_249 ?_
                              refine lv_iload hx hb d_MO_settled_250 (lv_at hl 6 rfl) ?_
                              refine lv_iand hx hb d_MO_settled_252 ?_
                              rw [b_land (a - 1) (by omega) z (by omega)]
                              refine lv_istore (lv' := [(6, .int (nI ((a - 1) &&& z))), (7, .int (nI r)), (0, .ref (wad g 58)), (1, .int (nI zj0)), (2, .int (nI ((2 ^ pc) - 1))), (3, .int (nI (cz (nnS (wK g) (cn, fr, to, hv, dy, an, af) zj0) pj))), (4, .int (nI (sbm (nnS (wK g) (cn, fr, to, hv, dy, an, af) zj0) pj))), (5, .int (nI z))]) hx hb d_MO_settled_253 hl (by decide) rfl (fun ls hl => ?_)
                              refine lv_goto (tgt := 177) hx hb d_MO_settled_255 (by decide) ?_
                              exact ih_177 ((a - 1) &&& z) (some v) _ _ _ _ (by omega) (by omega) (hnx.2) (u2_same _ _ _ _) (hcz) (CU_s hCU hnb hCU.1 (fun v hv => ⟨v, hv, Nat.le_refl _⟩) (fun h9 _ _ => absurd h9 hm1)) (fun k i h => (u2_ij2 h).trans (hF4 k i h)) hw (lv_sub hl [2, 3, 4, 5, 6, 7, 0] rfl)
                            · have hm0 := i_z.mp c_14
                              refine lv_iload hx hb d_MO_settled_210 (lv_at hl 0 rfl) ?_
                              refine lv_bipush (v := (-9)) hx hb d_MO_settled_212 (by decide) ?_
                              refine u_icmp_eq (tgt := 238) (X := ((r : Nat) : Int)) (Y := (-9)) hc (nI_tI (by omega)) (by decide) d_MO_settled_214 (by decide) (fun c_15 => ?_) (fun c_15 => ?_)
                              · exact absurd c_15 (by omega)
                              · refine lv_iload hx hb d_MO_settled_217 (lv_at hl 0 rfl) ?_
                                refine lv_iconst (v := nI 1) hx hb d_MO_settled_219 (by decide) ?_
                                refine q_iadd hc d_MO_settled_220 ?_
                                refine lv_aload_n hx hb d_MO_settled_221 rfl (lv_at hl 1 rfl) ?_
                                refine gf_MO_52 hc hw d_MO_settled_222 ?_
                                refine lv_iload hx hb d_MO_settled_225 (lv_at hl 6 rfl) ?_
                                refine r_iald hc hw (h := 73) (n := 64) (i := z) (fun _ => rfl) (by omega) (by omega) (by decide) d_MO_settled_227 (v := .int (nI v)) (congrArg Value.int hcu) ?_
                                refine q_icmp_le (tgt := 238) hc (by omega) (by omega) d_MO_settled_228 (by decide) (fun c_16 => ?_) (fun c_16 => ?_)
                                · refine lv_aload_n hx hb d_MO_settled_238 rfl (lv_at hl 1 rfl) ?_
                                  refine gf_MO_52 hc hw d_MO_settled_239 ?_
                                  refine lv_iload hx hb d_MO_settled_242 (lv_at hl 6 rfl) ?_
                                  refine r_iald hc hw (h := 73) (n := 64) (i := z) (fun _ => rfl) (by omega) (by omega) (by decide) d_MO_settled_244 (v := .int (nI v)) (congrArg Value.int hcu) ?_
                                  refine r_iast hc hw (h := 73) (n := 64) (i := z) (fun _ => rfl) (by omega) (by omega) (by decide) d_MO_settled_245 (fun H locs hw => ?_)
                                  refine lv_iload hx hb d_MO_settled_246 (lv_at hl 7 rfl) ?_
                                  refine lv_iconst (v := nI 1) hx hb d_MO_settled_248 (by decide) ?_
                                  refine q_isub hc (by omega) d_MO_settled_249 ?_
                                  refine lv_iload hx hb d_MO_settled_250 (lv_at hl 6 rfl) ?_
                                  refine lv_iand hx hb d_MO_settled_252 ?_
                                  rw [b_land (a - 1) (by omega) z (by omega)]
                                  refine lv_istore (lv' := [(6, .int (nI ((a - 1) &&& z))), (7, .int (nI r)), (0, .ref (wad g 58)), (1, .int (nI zj0)), (2, .int (nI ((2 ^ pc) - 1))), (3, .int (nI (cz (nnS (wK g) (cn, fr, to, hv, dy, an, af) zj0) pj))), (4, .int (nI (sbm (nnS (wK g) (cn, fr, to, hv, dy, an, af) zj0) pj))), (5, .int (nI z))]) hx hb d_MO_settled_253 hl (by decide) rfl (fun ls hl => ?_)
                                  refine lv_goto (tgt := 177) hx hb d_MO_settled_255 (by decide) ?_
                                  exact ih_177 ((a - 1) &&& z) (some v) _ _ _ _ (by omega) (by omega) (hnx.2) (u2_same _ _ _ _) (hcz) (CU_s hCU hnb hCU.1 (fun v hv => ⟨v, hv, Nat.le_refl _⟩) (fun _ r9 h9 => by rw [ho] at h9; cases h9; exact ⟨v, rfl, by omega⟩)) (fun k i h => (u2_ij2 h).trans (hF4 k i h)) hw (lv_sub hl [2, 3, 4, 5, 6, 7, 0] rfl)
                                · refine lv_iload hx hb d_MO_settled_231 (lv_at hl 0 rfl) ?_
                                  refine lv_iconst (v := nI 1) hx hb d_MO_settled_233 (by decide) ?_
                                  refine q_iadd hc d_MO_settled_234 ?_
                                  refine lv_goto (tgt := 245) hx hb d_MO_settled_235 (by decide) ?_
                                  refine r_iast hc hw (h := 73) (n := 64) (i := z) (fun _ => rfl) (by omega) (by omega) (by decide) d_MO_settled_245 (fun H locs hw => ?_)
                                  refine lv_iload hx hb d_MO_settled_246 (lv_at hl 7 rfl) ?_
                                  refine lv_iconst (v := nI 1) hx hb d_MO_settled_248 (by decide) ?_
                                  refine q_isub hc (by omega) d_MO_settled_249 ?_
                                  refine lv_iload hx hb d_MO_settled_250 (lv_at hl 6 rfl) ?_
                                  refine lv_iand hx hb d_MO_settled_252 ?_
                                  rw [b_land (a - 1) (by omega) z (by omega)]
                                  refine lv_istore (lv' := [(6, .int (nI ((a - 1) &&& z))), (7, .int (nI r)), (0, .ref (wad g 58)), (1, .int (nI zj0)), (2, .int (nI ((2 ^ pc) - 1))), (3, .int (nI (cz (nnS (wK g) (cn, fr, to, hv, dy, an, af) zj0) pj))), (4, .int (nI (sbm (nnS (wK g) (cn, fr, to, hv, dy, an, af) zj0) pj))), (5, .int (nI z))]) hx hb d_MO_settled_253 hl (by decide) rfl (fun ls hl => ?_)
                                  refine lv_goto (tgt := 177) hx hb d_MO_settled_255 (by decide) ?_
                                  exact ih_177 ((a - 1) &&& z) (some (r + 1)) _ _ _ _ (by omega) (by omega) (hnx.2) (u2_same _ _ _ _) (fun v hv => by cases hv; have := (hen (z - a) (by omega)).2.2 r ho; omega) (CU_s hCU hnb (fun v hv => by cases hv; exact PP_step hpc6 (by omega) haz (by omega) (by omega) hm0 ((hen (z - a) (by omega)).2.1.1 r ho)) (fun v hv => by first | (cases hv; done) | (cases hv; exact ⟨r + 1, rfl, by omega⟩)) (fun _ r9 h9 => by rw [ho] at h9; cases h9; exact ⟨r + 1, rfl, Nat.le_refl _⟩)) (fun k i h => (u2_ij2 h).trans (hF4 k i h)) hw (lv_sub hl [2, 3, 4, 5, 6, 7, 0] rfl)
                  exact loop_177 _ z none _ _ _ _ (Nat.lt_succ_self _) (by omega) (Nat.and_self z) (u2_same _ _ _ _) (fun v hv => by cases hv) (CU_0) (fun k i h => u2_ij2 (by omega)) hw (lv_sub hl [1, 2, 3, 4, 5, 6, 0] rfl)
            exact loop_158 _ 1 (fun _ => some 0) _ _ _ _ (Nat.lt_succ_self _) (by omega) (by omega) (fun w hw => by have e9 : w = 0 := (by omega); subst e9; exact ⟨u2_same _ _ _ _, EN_0, fun v hv => (by cases hv; exact Nat.le_refl _)⟩) (fun w hw => (u2_h (by decide)).trans (hmk hpc0 w (by omega))) (fun k i h1 h2 => (u2_h h2).trans (zhF1 k i h1)) hw (lv_sub hl [1, 2, 3, 4, 5, 0] rfl)
          · refine lv_aload_n hx hb d_MO_settled_46 rfl (lv_at hl 0 rfl) ?_
            refine lv_iload hx hb d_MO_settled_47 (lv_at hl 5 rfl) ?_
            refine lv_iload_n hx hb d_MO_settled_49 rfl (lv_at hl 1 rfl) ?_
            refine kRV hc hw lk_MO_146 (As := [.int (nI pj), .int (nI zj0)]) (rest := []) (c_MO_netOf l D g _ pc cn fr to hv dy an af hI (LM_c hM (zhF1 58 13 (by decide)) (fun k hk hk2 => funext fun i => zhF1 k i (by omega))) hpc6 (fun q hq => ⟨(zhF1 62 q (by decide)).trans (hK q hq).1, (hK q hq).2⟩) ((zhF1 58 5 (by decide)).trans hPM.1) pj zj0 (by omega) (by omega)) (rc_MO hw) ⟨Nat.le_of_ble_eq_true rfl, Nat.le_of_ble_eq_true rfl⟩ ⟨Nat.le_refl _, Nat.le_refl _⟩ rfl hl rfl (Nat.le_of_ble_eq_true rfl) d_MO_settled_50 ?_
            rw [show ntS pj zj0 fr to dy an (lsc g fr hv) cn = (nnS (wK g) (cn, fr, to, hv, dy, an, af) zj0) pj from rfl]
            refine lv_istore (lv' := [(6, .int ((nnS (wK g) (cn, fr, to, hv, dy, an, af) zj0) pj)), (0, .ref (wad g 58)), (1, .int (nI zj0)), (2, .int (nI ((2 ^ pc) - 1))), (3, .int (nI (cz (nnS (wK g) (cn, fr, to, hv, dy, an, af) zj0) pj))), (4, .int (nI (sbm (nnS (wK g) (cn, fr, to, hv, dy, an, af) zj0) pj))), (5, .int (nI pj))]) hx hb d_MO_settled_53 hl (by decide) rfl (fun ls hl => ?_)
            refine lv_iload hx hb d_MO_settled_55 (lv_at hl 5 rfl) ?_
            refine lv_iload hx hb d_MO_settled_57 (lv_at hl 0 rfl) ?_
            refine u_if_eq (tgt := 69) (X := ((nnS (wK g) (cn, fr, to, hv, dy, an, af) zj0) pj).toInt) hc (rfl) d_MO_settled_59 (by decide) (fun c_17 => ?_) (fun c_17 => ?_)
            · have hz0 := i_z.mp c_17
              refine lv_iconst (v := nI 0) hx hb d_MO_settled_69 (by decide) ?_
              refine lv_ior hx hb d_MO_settled_70 ?_
              rw [b_or0 (sbm (nnS (wK g) (cn, fr, to, hv, dy, an, af) zj0) pj) (by omega)]
              refine lv_istore (lv' := [(4, .int (nI (sbm (nnS (wK g) (cn, fr, to, hv, dy, an, af) zj0) pj))), (6, .int ((nnS (wK g) (cn, fr, to, hv, dy, an, af) zj0) pj)), (0, .ref (wad g 58)), (1, .int (nI zj0)), (2, .int (nI ((2 ^ pc) - 1))), (3, .int (nI (cz (nnS (wK g) (cn, fr, to, hv, dy, an, af) zj0) pj))), (5, .int (nI pj))]) hx hb d_MO_settled_71 hl (by decide) rfl (fun ls hl => ?_)
              refine lv_iload_n hx hb d_MO_settled_73 rfl (lv_at hl 5 rfl) ?_
              refine lv_iload hx hb d_MO_settled_74 (lv_at hl 1 rfl) ?_
              refine u_if_eq (tgt := 83) (X := ((nnS (wK g) (cn, fr, to, hv, dy, an, af) zj0) pj).toInt) hc (rfl) d_MO_settled_76 (by decide) (fun c_18 => ?_) (fun c_18 => ?_)
              · refine lv_iconst (v := nI 0) hx hb d_MO_settled_83 (by decide) ?_
                refine q_iadd hc d_MO_settled_84 ?_
                refine lv_istore_n (lv' := [(3, .int (nI ((cz (nnS (wK g) (cn, fr, to, hv, dy, an, af) zj0) pj) + 0))), (4, .int (nI (sbm (nnS (wK g) (cn, fr, to, hv, dy, an, af) zj0) pj))), (6, .int ((nnS (wK g) (cn, fr, to, hv, dy, an, af) zj0) pj)), (0, .ref (wad g 58)), (1, .int (nI zj0)), (2, .int (nI ((2 ^ pc) - 1))), (5, .int (nI pj))]) hx hb d_MO_settled_85 rfl hl (by decide) rfl (fun ls hl => ?_)
                refine lv_iconst (v := nI 0) hx hb d_MO_settled_86 (by decide) ?_
                refine lv_istore (lv' := [(7, .int (nI 0)), (3, .int (nI ((cz (nnS (wK g) (cn, fr, to, hv, dy, an, af) zj0) pj) + 0))), (4, .int (nI (sbm (nnS (wK g) (cn, fr, to, hv, dy, an, af) zj0) pj))), (6, .int ((nnS (wK g) (cn, fr, to, hv, dy, an, af) zj0) pj)), (0, .ref (wad g 58)), (1, .int (nI zj0)), (2, .int (nI ((2 ^ pc) - 1))), (5, .int (nI pj))]) hx hb d_MO_settled_87 hl (by decide) rfl (fun ls hl => ?_)
                have loop_89 : ∀ (n_89 : Nat) (z : Nat) (F2 : wF) (H : Heap) (locs : List Loc) (ls : Array Slot), (2 ^ pc - z) < n_89 → (z ≤ 2 ^ pc) → (∀ w, w < z → F2 72 w = mk (nnS (wK g) (cn, fr, to, hv, dy, an, af) zj0) (pj + 1) w) → (∀ w, z ≤ w → F2 72 w = F1 72 w) → (∀ k i, k ≠ 72 → F2 k i = F k i) → Wd D g F2 A s.heap H locs s → lv_has ls 8 [(0, .ref (wad g 58)), (1, .int (nI zj0)), (2, .int (nI ((2 ^ pc) - 1))), (3, .int (nI ((cz (nnS (wK g) (cn, fr, to, hv, dy, an, af) zj0) pj) + 0))), (4, .int (nI (sbm (nnS (wK g) (cn, fr, to, hv, dy, an, af) zj0) pj))), (5, .int (nI pj)), (6, .int ((nnS (wK g) (cn, fr, to, hv, dy, an, af) zj0) pj)), (7, .int (nI z))] → W p l e (rmc 5 0 0) s m args below meth c H locs 0 0 (MQ below (Qw (fun v g2 u => v = some (.int (s_settled (wK g) (pc, lf) (cn, fr, to, hv, dy, an, af) (nI zj0))) ∧ g = g2 ∧ MI g u (pc, lf) lw (cn, fr, to, hv, dy, an, af) (ln, sz, ce) tr ft ∧ FrO 58 78 F u) (Bw D A) A) args s 0 0 A) (F0 m 89 ls []) := by
                  intro n_89
                  induction n_89 with
                  | zero => intro z F2 H locs ls hm; exact absurd hm (Nat.not_lt_zero _)
                  | succ n_89 ih_89 =>
                    intro z F2 H locs ls hm_89 hz hin hin2 zhF2 hw hl
                    refine lv_iload hx hb d_MO_settled_89 (lv_at hl 7 rfl) ?_
                    refine lv_iload_n hx hb d_MO_settled_91 rfl (lv_at hl 2 rfl) ?_
                    refine q_icmp_gt (tgt := 142) hc (by omega) (by omega) d_MO_settled_92 (by decide) (fun c_19 => ?_) (fun c_19 => ?_)
                    · refine lv_iinc (v := nI (pj + 1)) (lv' := [(5, .int (nI (pj + 1))), (0, .ref (wad g 58)), (1, .int (nI zj0)), (2, .int (nI ((2 ^ pc) - 1))), (3, .int (nI ((cz (nnS (wK g) (cn, fr, to, hv, dy, an, af) zj0) pj) + 0))), (4, .int (nI (sbm (nnS (wK g) (cn, fr, to, hv, dy, an, af) zj0) pj))), (6, .int ((nnS (wK g) (cn, fr, to, hv, dy, an, af) zj0) pj)), (7, .int (nI z))]) hx hb d_MO_settled_142 hl (k := 5) rfl (nI_inc1 _) (by decide) rfl (fun ls hl => ?_)
                      refine lv_goto (tgt := 37) hx hb d_MO_settled_145 (by decide) ?_
                      have hl : lv_has ls 8 [(5, .int (nI (pj + 1))), (0, .ref (wad g 58)), (1, .int (nI zj0)), (2, .int (nI ((2 ^ pc) - 1))), (3, .int (nI (cz (nnS (wK g) (cn, fr, to, hv, dy, an, af) zj0) (pj + 1)))), (4, .int (nI (sbm (nnS (wK g) (cn, fr, to, hv, dy, an, af) zj0) pj))), (6, .int ((nnS (wK g) (cn, fr, to, hv, dy, an, af) zj0) pj)), (7, .int (nI z))] := by rw [show cz (nnS (wK g) (cn, fr, to, hv, dy, an, af) zj0) (pj + 1) = (cz (nnS (wK g) (cn, fr, to, hv, dy, an, af) zj0) pj) + 0 from by exact cz_z hz0]; exact hl
                      have hl : lv_has ls 8 [(5, .int (nI (pj + 1))), (0, .ref (wad g 58)), (1, .int (nI zj0)), (2, .int (nI ((2 ^ pc) - 1))), (3, .int (nI (cz (nnS (wK g) (cn, fr, to, hv, dy, an, af) zj0) (pj + 1)))), (4, .int (nI (sbm (nnS (wK g) (cn, fr, to, hv, dy, an, af) zj0) (pj + 1)))), (6, .int ((nnS (wK g) (cn, fr, to, hv, dy, an, af) zj0) pj)), (7, .int (nI z))] := by rw [show sbm (nnS (wK g) (cn, fr, to, hv, dy, an, af) zj0) (pj + 1) = sbm (nnS (wK g) (cn, fr, to, hv, dy, an, af) zj0) pj from by exact sbm_z hz0]; exact hl
                      exact ih_37 (pj + 1) _ _ _ _ (by omega) (by omega) (fun _ w hw => hin w (by omega)) (zhF2) hw (lv_sub hl [1, 2, 3, 4, 5, 0] rfl)
                    · refine lv_aload_n hx hb d_MO_settled_95 rfl (lv_at hl 0 rfl) ?_
                      refine gf_MO_49 hc hw d_MO_settled_96 ?_
                      refine lv_iload hx hb d_MO_settled_99 (lv_at hl 7 rfl) ?_
                      refine lv_iload hx hb d_MO_settled_101 (lv_at hl 5 rfl) ?_
                      refine q_if_ne (tgt := 110) hc (by omega) d_MO_settled_103 (by decide) (fun c_20 => ?_) (fun c_20 => ?_)
                      · refine lv_aload_n hx hb d_MO_settled_110 rfl (lv_at hl 0 rfl) ?_
                        refine gf_MO_49 hc hw d_MO_settled_111 ?_
                        refine lv_iload hx hb d_MO_settled_114 (lv_at hl 7 rfl) ?_
                        refine r_iald hc hw (h := 72) (n := 64) (i := z) (fun _ => rfl) (by omega) (by omega) (by decide) d_MO_settled_116 (v := .int (mk (nnS (wK g) (cn, fr, to, hv, dy, an, af) zj0) pj z)) (congrArg Value.int ((hin2 z (Nat.le_refl z)).trans (hmk (by assumption) z (by omega)))) ?_
                        refine lv_iload hx hb d_MO_settled_117 (lv_at hl 7 rfl) ?_
                        refine lv_iload hx hb d_MO_settled_119 (lv_at hl 5 rfl) ?_
                        refine lv_ishr hx hb d_MO_settled_121 ?_
                        refine lv_iconst (v := nI 1) hx hb d_MO_settled_122 (by decide) ?_
                        refine lv_iand hx hb d_MO_settled_123 ?_
                        rw [b_bit pj (by omega) z (by omega)]
                        by_cases hbt : z.testBit pj = true
                        · rw [if_pos hbt]
                          refine lv_iconst (v := nI 1) hx hb d_MO_settled_124 (by decide) ?_
                          refine q_icmp_ne (tgt := 133) hc (by omega) (by omega) d_MO_settled_125 (by decide) (fun c_21 => ?_) (fun c_21 => ?_)
                          · exact absurd c_21 (by first | omega | decide)
                          · refine lv_iload hx hb d_MO_settled_128 (lv_at hl 6 rfl) ?_
                            refine lv_goto (tgt := 134) hx hb d_MO_settled_130 (by decide) ?_
                            refine lv_iadd hx hb d_MO_settled_134 ?_
                            refine r_iast hc hw (h := 72) (n := 64) (i := z) (fun _ => rfl) (by omega) (by omega) (by decide) d_MO_settled_135 (fun H locs hw => ?_)
                            refine lv_iinc (v := nI (z + 1)) (lv' := [(7, .int (nI (z + 1))), (0, .ref (wad g 58)), (1, .int (nI zj0)), (2, .int (nI ((2 ^ pc) - 1))), (3, .int (nI ((cz (nnS (wK g) (cn, fr, to, hv, dy, an, af) zj0) pj) + 0))), (4, .int (nI (sbm (nnS (wK g) (cn, fr, to, hv, dy, an, af) zj0) pj))), (5, .int (nI pj)), (6, .int ((nnS (wK g) (cn, fr, to, hv, dy, an, af) zj0) pj))]) hx hb d_MO_settled_136 hl (k := 7) rfl (nI_inc1 _) (by decide) rfl (fun ls hl => ?_)
                            refine lv_goto (tgt := 89) hx hb d_MO_settled_139 (by decide) ?_
                            exact ih_89 (z + 1) _ _ _ _ (by omega) (by omega) (fun w hw => by rcases (show w < z ∨ w = z by omega) with e9 | e9; exact (u2_i (by omega)).trans (hin w e9); (rw [e9]; exact (u2_same _ _ _ _).trans (by rw [mk_y hbt]; try rfl))) (fun w hw => (u2_i (by omega)).trans (hin2 w (by omega))) (fun k i h => (u2_h h).trans (zhF2 k i h)) hw (lv_sub hl [1, 2, 3, 4, 5, 6, 7, 0] rfl)
                        · rw [if_neg hbt]
                          refine lv_iconst (v := nI 1) hx hb d_MO_settled_124 (by decide) ?_
                          refine q_icmp_ne (tgt := 133) hc (by omega) (by omega) d_MO_settled_125 (by decide) (fun c_22 => ?_) (fun c_22 => ?_)
                          · refine lv_iconst (v := nI 0) hx hb d_MO_settled_133 (by decide) ?_
                            refine lv_iadd hx hb d_MO_settled_134 ?_
                            refine r_iast hc hw (h := 72) (n := 64) (i := z) (fun _ => rfl) (by omega) (by omega) (by decide) d_MO_settled_135 (fun H locs hw => ?_)
                            refine lv_iinc (v := nI (z + 1)) (lv' := [(7, .int (nI (z + 1))), (0, .ref (wad g 58)), (1, .int (nI zj0)), (2, .int (nI ((2 ^ pc) - 1))), (3, .int (nI ((cz (nnS (wK g) (cn, fr, to, hv, dy, an, af) zj0) pj) + 0))), (4, .int (nI (sbm (nnS (wK g) (cn, fr, to, hv, dy, an, af) zj0) pj))), (5, .int (nI pj)), (6, .int ((nnS (wK g) (cn, fr, to, hv, dy, an, af) zj0) pj))]) hx hb d_MO_settled_136 hl (k := 7) rfl (nI_inc1 _) (by decide) rfl (fun ls hl => ?_)
                            refine lv_goto (tgt := 89) hx hb d_MO_settled_139 (by decide) ?_
                            exact ih_89 (z + 1) _ _ _ _ (by omega) (by omega) (fun w hw => by rcases (show w < z ∨ w = z by omega) with e9 | e9; exact (u2_i (by omega)).trans (hin w e9); (rw [e9]; exact (u2_same _ _ _ _).trans (by rw [mk_n hbt]; try rfl))) (fun w hw => (u2_i (by omega)).trans (hin2 w (by omega))) (fun k i h => (u2_h h).trans (zhF2 k i h)) hw (lv_sub hl [1, 2, 3, 4, 5, 6, 7, 0] rfl)
                          · exact absurd c_22 (by first | omega | decide)
                      · have hp0 : pj = 0 := c_20
                        refine lv_iconst (v := nI 0) hx hb d_MO_settled_106 (by decide) ?_
                        refine lv_goto (tgt := 117) hx hb d_MO_settled_107 (by decide) ?_
                        refine lv_iload hx hb d_MO_settled_117 (lv_at hl 7 rfl) ?_
                        refine lv_iload hx hb d_MO_settled_119 (lv_at hl 5 rfl) ?_
                        refine lv_ishr hx hb d_MO_settled_121 ?_
                        refine lv_iconst (v := nI 1) hx hb d_MO_settled_122 (by decide) ?_
                        refine lv_iand hx hb d_MO_settled_123 ?_
                        rw [b_bit pj (by omega) z (by omega)]
                        by_cases hbt : z.testBit pj = true
                        · rw [if_pos hbt]
                          refine lv_iconst (v := nI 1) hx hb d_MO_settled_124 (by decide) ?_
                          refine q_icmp_ne (tgt := 133) hc (by omega) (by omega) d_MO_settled_125 (by decide) (fun c_23 => ?_) (fun c_23 => ?_)
                          · exact absurd c_23 (by first | omega | decide)
                          · refine lv_iload hx hb d_MO_settled_128 (lv_at hl 6 rfl) ?_
                            refine lv_goto (tgt := 134) hx hb d_MO_settled_130 (by decide) ?_
                            refine lv_iadd hx hb d_MO_settled_134 ?_
                            refine r_iast hc hw (h := 72) (n := 64) (i := z) (fun _ => rfl) (by omega) (by omega) (by decide) d_MO_settled_135 (fun H locs hw => ?_)
                            refine lv_iinc (v := nI (z + 1)) (lv' := [(7, .int (nI (z + 1))), (0, .ref (wad g 58)), (1, .int (nI zj0)), (2, .int (nI ((2 ^ pc) - 1))), (3, .int (nI ((cz (nnS (wK g) (cn, fr, to, hv, dy, an, af) zj0) pj) + 0))), (4, .int (nI (sbm (nnS (wK g) (cn, fr, to, hv, dy, an, af) zj0) pj))), (5, .int (nI pj)), (6, .int ((nnS (wK g) (cn, fr, to, hv, dy, an, af) zj0) pj))]) hx hb d_MO_settled_136 hl (k := 7) rfl (nI_inc1 _) (by decide) rfl (fun ls hl => ?_)
                            refine lv_goto (tgt := 89) hx hb d_MO_settled_139 (by decide) ?_
                            exact ih_89 (z + 1) _ _ _ _ (by omega) (by omega) (fun w hw => by rcases (show w < z ∨ w = z by omega) with e9 | e9; exact (u2_i (by omega)).trans (hin w e9); (rw [e9]; exact (u2_same _ _ _ _).trans (by rw [mk_y hbt, mk_0 hp0]; try rfl))) (fun w hw => (u2_i (by omega)).trans (hin2 w (by omega))) (fun k i h => (u2_h h).trans (zhF2 k i h)) hw (lv_sub hl [1, 2, 3, 4, 5, 6, 7, 0] rfl)
                        · rw [if_neg hbt]
                          refine lv_iconst (v := nI 1) hx hb d_MO_settled_124 (by decide) ?_
                          refine q_icmp_ne (tgt := 133) hc (by omega) (by omega) d_MO_settled_125 (by decide) (fun c_24 => ?_) (fun c_24 => ?_)
                          · refine lv_iconst (v := nI 0) hx hb d_MO_settled_133 (by decide) ?_
                            refine lv_iadd hx hb d_MO_settled_134 ?_
                            refine r_iast hc hw (h := 72) (n := 64) (i := z) (fun _ => rfl) (by omega) (by omega) (by decide) d_MO_settled_135 (fun H locs hw => ?_)
                            refine lv_iinc (v := nI (z + 1)) (lv' := [(7, .int (nI (z + 1))), (0, .ref (wad g 58)), (1, .int (nI zj0)), (2, .int (nI ((2 ^ pc) - 1))), (3, .int (nI ((cz (nnS (wK g) (cn, fr, to, hv, dy, an, af) zj0) pj) + 0))), (4, .int (nI (sbm (nnS (wK g) (cn, fr, to, hv, dy, an, af) zj0) pj))), (5, .int (nI pj)), (6, .int ((nnS (wK g) (cn, fr, to, hv, dy, an, af) zj0) pj))]) hx hb d_MO_settled_136 hl (k := 7) rfl (nI_inc1 _) (by decide) rfl (fun ls hl => ?_)
                            refine lv_goto (tgt := 89) hx hb d_MO_settled_139 (by decide) ?_
                            exact ih_89 (z + 1) _ _ _ _ (by omega) (by omega) (fun w hw => by rcases (show w < z ∨ w = z by omega) with e9 | e9; exact (u2_i (by omega)).trans (hin w e9); (rw [e9]; exact (u2_same _ _ _ _).trans (by rw [mk_n hbt, mk_0 hp0]; try rfl))) (fun w hw => (u2_i (by omega)).trans (hin2 w (by omega))) (fun k i h => (u2_h h).trans (zhF2 k i h)) hw (lv_sub hl [1, 2, 3, 4, 5, 6, 7, 0] rfl)
                          · exact absurd c_24 (by first | omega | decide)
                exact loop_89 _ 0 _ _ _ _ (Nat.lt_succ_self _) (by omega) (fun w hw => absurd hw (Nat.not_lt_zero w)) (fun _ _ => rfl) (zhF1) hw (lv_sub hl [4, 5, 6, 1, 2, 7, 3, 0] rfl)
              · exact absurd (i_z.mpr hz0) c_18
            · have hz0 : ¬ (nnS (wK g) (cn, fr, to, hv, dy, an, af) zj0) pj = 0 := fun h => c_17 (i_z.mpr h)
              refine lv_iconst (v := nI 1) hx hb d_MO_settled_62 (by decide) ?_
              refine lv_iload hx hb d_MO_settled_63 (lv_at hl 6 rfl) ?_
              refine lv_ishl hx hb d_MO_settled_65 ?_
              rw [b_shl (pj) (by omega)]
              refine lv_goto (tgt := 70) hx hb d_MO_settled_66 (by decide) ?_
              refine lv_ior hx hb d_MO_settled_70 ?_
              rw [b_or pj (by omega) _ (sbm_lt pj)]
              refine lv_istore (lv' := [(4, .int (nI (sbm (nnS (wK g) (cn, fr, to, hv, dy, an, af) zj0) pj + 2 ^ pj))), (6, .int ((nnS (wK g) (cn, fr, to, hv, dy, an, af) zj0) pj)), (0, .ref (wad g 58)), (1, .int (nI zj0)), (2, .int (nI ((2 ^ pc) - 1))), (3, .int (nI (cz (nnS (wK g) (cn, fr, to, hv, dy, an, af) zj0) pj))), (5, .int (nI pj))]) hx hb d_MO_settled_71 hl (by decide) rfl (fun ls hl => ?_)
              refine lv_iload_n hx hb d_MO_settled_73 rfl (lv_at hl 5 rfl) ?_
              refine lv_iload hx hb d_MO_settled_74 (lv_at hl 1 rfl) ?_
              refine u_if_eq (tgt := 83) (X := ((nnS (wK g) (cn, fr, to, hv, dy, an, af) zj0) pj).toInt) hc (rfl) d_MO_settled_76 (by decide) (fun c_25 => ?_) (fun c_25 => ?_)
              · exact absurd (i_z.mp c_25) hz0
              · refine lv_iconst (v := nI 1) hx hb d_MO_settled_79 (by decide) ?_
                refine lv_goto (tgt := 84) hx hb d_MO_settled_80 (by decide) ?_
                refine q_iadd hc d_MO_settled_84 ?_
                refine lv_istore_n (lv' := [(3, .int (nI ((cz (nnS (wK g) (cn, fr, to, hv, dy, an, af) zj0) pj) + 1))), (4, .int (nI (sbm (nnS (wK g) (cn, fr, to, hv, dy, an, af) zj0) pj + 2 ^ pj))), (6, .int ((nnS (wK g) (cn, fr, to, hv, dy, an, af) zj0) pj)), (0, .ref (wad g 58)), (1, .int (nI zj0)), (2, .int (nI ((2 ^ pc) - 1))), (5, .int (nI pj))]) hx hb d_MO_settled_85 rfl hl (by decide) rfl (fun ls hl => ?_)
                refine lv_iconst (v := nI 0) hx hb d_MO_settled_86 (by decide) ?_
                refine lv_istore (lv' := [(7, .int (nI 0)), (3, .int (nI ((cz (nnS (wK g) (cn, fr, to, hv, dy, an, af) zj0) pj) + 1))), (4, .int (nI (sbm (nnS (wK g) (cn, fr, to, hv, dy, an, af) zj0) pj + 2 ^ pj))), (6, .int ((nnS (wK g) (cn, fr, to, hv, dy, an, af) zj0) pj)), (0, .ref (wad g 58)), (1, .int (nI zj0)), (2, .int (nI ((2 ^ pc) - 1))), (5, .int (nI pj))]) hx hb d_MO_settled_87 hl (by decide) rfl (fun ls hl => ?_)
                have loop_89 : ∀ (n_89 : Nat) (z : Nat) (F2 : wF) (H : Heap) (locs : List Loc) (ls : Array Slot), (2 ^ pc - z) < n_89 → (z ≤ 2 ^ pc) → (∀ w, w < z → F2 72 w = mk (nnS (wK g) (cn, fr, to, hv, dy, an, af) zj0) (pj + 1) w) → (∀ w, z ≤ w → F2 72 w = F1 72 w) → (∀ k i, k ≠ 72 → F2 k i = F k i) → Wd D g F2 A s.heap H locs s → lv_has ls 8 [(0, .ref (wad g 58)), (1, .int (nI zj0)), (2, .int (nI ((2 ^ pc) - 1))), (3, .int (nI ((cz (nnS (wK g) (cn, fr, to, hv, dy, an, af) zj0) pj) + 1))), (4, .int (nI (sbm (nnS (wK g) (cn, fr, to, hv, dy, an, af) zj0) pj + 2 ^ pj))), (5, .int (nI pj)), (6, .int ((nnS (wK g) (cn, fr, to, hv, dy, an, af) zj0) pj)), (7, .int (nI z))] → W p l e (rmc 5 0 0) s m args below meth c H locs 0 0 (MQ below (Qw (fun v g2 u => v = some (.int (s_settled (wK g) (pc, lf) (cn, fr, to, hv, dy, an, af) (nI zj0))) ∧ g = g2 ∧ MI g u (pc, lf) lw (cn, fr, to, hv, dy, an, af) (ln, sz, ce) tr ft ∧ FrO 58 78 F u) (Bw D A) A) args s 0 0 A) (F0 m 89 ls []) := by
                  intro n_89
                  induction n_89 with
                  | zero => intro z F2 H locs ls hm; exact absurd hm (Nat.not_lt_zero _)
                  | succ n_89 ih_89 =>
                    intro z F2 H locs ls hm_89 hz hin hin2 zhF2 hw hl
                    refine lv_iload hx hb d_MO_settled_89 (lv_at hl 7 rfl) ?_
                    refine lv_iload_n hx hb d_MO_settled_91 rfl (lv_at hl 2 rfl) ?_
                    refine q_icmp_gt (tgt := 142) hc (by omega) (by omega) d_MO_settled_92 (by decide) (fun c_26 => ?_) (fun c_26 => ?_)
                    · refine lv_iinc (v := nI (pj + 1)) (lv' := [(5, .int (nI (pj + 1))), (0, .ref (wad g 58)), (1, .int (nI zj0)), (2, .int (nI ((2 ^ pc) - 1))), (3, .int (nI ((cz (nnS (wK g) (cn, fr, to, hv, dy, an, af) zj0) pj) + 1))), (4, .int (nI (sbm (nnS (wK g) (cn, fr, to, hv, dy, an, af) zj0) pj + 2 ^ pj))), (6, .int ((nnS (wK g) (cn, fr, to, hv, dy, an, af) zj0) pj)), (7, .int (nI z))]) hx hb d_MO_settled_142 hl (k := 5) rfl (nI_inc1 _) (by decide) rfl (fun ls hl => ?_)
                      refine lv_goto (tgt := 37) hx hb d_MO_settled_145 (by decide) ?_
                      have hl : lv_has ls 8 [(5, .int (nI (pj + 1))), (0, .ref (wad g 58)), (1, .int (nI zj0)), (2, .int (nI ((2 ^ pc) - 1))), (3, .int (nI (cz (nnS (wK g) (cn, fr, to, hv, dy, an, af) zj0) (pj + 1)))), (4, .int (nI (sbm (nnS (wK g) (cn, fr, to, hv, dy, an, af) zj0) pj + 2 ^ pj))), (6, .int ((nnS (wK g) (cn, fr, to, hv, dy, an, af) zj0) pj)), (7, .int (nI z))] := by rw [show cz (nnS (wK g) (cn, fr, to, hv, dy, an, af) zj0) (pj + 1) = (cz (nnS (wK g) (cn, fr, to, hv, dy, an, af) zj0) pj) + 1 from by exact cz_n hz0]; exact hl
                      have hl : lv_has ls 8 [(5, .int (nI (pj + 1))), (0, .ref (wad g 58)), (1, .int (nI zj0)), (2, .int (nI ((2 ^ pc) - 1))), (3, .int (nI (cz (nnS (wK g) (cn, fr, to, hv, dy, an, af) zj0) (pj + 1)))), (4, .int (nI (sbm (nnS (wK g) (cn, fr, to, hv, dy, an, af) zj0) (pj + 1)))), (6, .int ((nnS (wK g) (cn, fr, to, hv, dy, an, af) zj0) pj)), (7, .int (nI z))] := by rw [show sbm (nnS (wK g) (cn, fr, to, hv, dy, an, af) zj0) (pj + 1) = sbm (nnS (wK g) (cn, fr, to, hv, dy, an, af) zj0) pj + 2 ^ pj from by exact sbm_n hz0]; exact hl
                      exact ih_37 (pj + 1) _ _ _ _ (by omega) (by omega) (fun _ w hw => hin w (by omega)) (zhF2) hw (lv_sub hl [1, 2, 3, 4, 5, 0] rfl)
                    · refine lv_aload_n hx hb d_MO_settled_95 rfl (lv_at hl 0 rfl) ?_
                      refine gf_MO_49 hc hw d_MO_settled_96 ?_
                      refine lv_iload hx hb d_MO_settled_99 (lv_at hl 7 rfl) ?_
                      refine lv_iload hx hb d_MO_settled_101 (lv_at hl 5 rfl) ?_
                      refine q_if_ne (tgt := 110) hc (by omega) d_MO_settled_103 (by decide) (fun c_27 => ?_) (fun c_27 => ?_)
                      · refine lv_aload_n hx hb d_MO_settled_110 rfl (lv_at hl 0 rfl) ?_
                        refine gf_MO_49 hc hw d_MO_settled_111 ?_
                        refine lv_iload hx hb d_MO_settled_114 (lv_at hl 7 rfl) ?_
                        refine r_iald hc hw (h := 72) (n := 64) (i := z) (fun _ => rfl) (by omega) (by omega) (by decide) d_MO_settled_116 (v := .int (mk (nnS (wK g) (cn, fr, to, hv, dy, an, af) zj0) pj z)) (congrArg Value.int ((hin2 z (Nat.le_refl z)).trans (hmk (by assumption) z (by omega)))) ?_
                        refine lv_iload hx hb d_MO_settled_117 (lv_at hl 7 rfl) ?_
                        refine lv_iload hx hb d_MO_settled_119 (lv_at hl 5 rfl) ?_
                        refine lv_ishr hx hb d_MO_settled_121 ?_
                        refine lv_iconst (v := nI 1) hx hb d_MO_settled_122 (by decide) ?_
                        refine lv_iand hx hb d_MO_settled_123 ?_
                        rw [b_bit pj (by omega) z (by omega)]
                        by_cases hbt : z.testBit pj = true
                        · rw [if_pos hbt]
                          refine lv_iconst (v := nI 1) hx hb d_MO_settled_124 (by decide) ?_
                          refine q_icmp_ne (tgt := 133) hc (by omega) (by omega) d_MO_settled_125 (by decide) (fun c_28 => ?_) (fun c_28 => ?_)
                          · exact absurd c_28 (by first | omega | decide)
                          · refine lv_iload hx hb d_MO_settled_128 (lv_at hl 6 rfl) ?_
                            refine lv_goto (tgt := 134) hx hb d_MO_settled_130 (by decide) ?_
                            refine lv_iadd hx hb d_MO_settled_134 ?_
                            refine r_iast hc hw (h := 72) (n := 64) (i := z) (fun _ => rfl) (by omega) (by omega) (by decide) d_MO_settled_135 (fun H locs hw => ?_)
                            refine lv_iinc (v := nI (z + 1)) (lv' := [(7, .int (nI (z + 1))), (0, .ref (wad g 58)), (1, .int (nI zj0)), (2, .int (nI ((2 ^ pc) - 1))), (3, .int (nI ((cz (nnS (wK g) (cn, fr, to, hv, dy, an, af) zj0) pj) + 1))), (4, .int (nI (sbm (nnS (wK g) (cn, fr, to, hv, dy, an, af) zj0) pj + 2 ^ pj))), (5, .int (nI pj)), (6, .int ((nnS (wK g) (cn, fr, to, hv, dy, an, af) zj0) pj))]) hx hb d_MO_settled_136 hl (k := 7) rfl (nI_inc1 _) (by decide) rfl (fun ls hl => ?_)
                            refine lv_goto (tgt := 89) hx hb d_MO_settled_139 (by decide) ?_
                            exact ih_89 (z + 1) _ _ _ _ (by omega) (by omega) (fun w hw => by rcases (show w < z ∨ w = z by omega) with e9 | e9; exact (u2_i (by omega)).trans (hin w e9); (rw [e9]; exact (u2_same _ _ _ _).trans (by rw [mk_y hbt]; try rfl))) (fun w hw => (u2_i (by omega)).trans (hin2 w (by omega))) (fun k i h => (u2_h h).trans (zhF2 k i h)) hw (lv_sub hl [1, 2, 3, 4, 5, 6, 7, 0] rfl)
                        · rw [if_neg hbt]
                          refine lv_iconst (v := nI 1) hx hb d_MO_settled_124 (by decide) ?_
                          refine q_icmp_ne (tgt := 133) hc (by omega) (by omega) d_MO_settled_125 (by decide) (fun c_29 => ?_) (fun c_29 => ?_)
                          · refine lv_iconst (v := nI 0) hx hb d_MO_settled_133 (by decide) ?_
                            refine lv_iadd hx hb d_MO_settled_134 ?_
                            refine r_iast hc hw (h := 72) (n := 64) (i := z) (fun _ => rfl) (by omega) (by omega) (by decide) d_MO_settled_135 (fun H locs hw => ?_)
                            refine lv_iinc (v := nI (z + 1)) (lv' := [(7, .int (nI (z + 1))), (0, .ref (wad g 58)), (1, .int (nI zj0)), (2, .int (nI ((2 ^ pc) - 1))), (3, .int (nI ((cz (nnS (wK g) (cn, fr, to, hv, dy, an, af) zj0) pj) + 1))), (4, .int (nI (sbm (nnS (wK g) (cn, fr, to, hv, dy, an, af) zj0) pj + 2 ^ pj))), (5, .int (nI pj)), (6, .int ((nnS (wK g) (cn, fr, to, hv, dy, an, af) zj0) pj))]) hx hb d_MO_settled_136 hl (k := 7) rfl (nI_inc1 _) (by decide) rfl (fun ls hl => ?_)
                            refine lv_goto (tgt := 89) hx hb d_MO_settled_139 (by decide) ?_
                            exact ih_89 (z + 1) _ _ _ _ (by omega) (by omega) (fun w hw => by rcases (show w < z ∨ w = z by omega) with e9 | e9; exact (u2_i (by omega)).trans (hin w e9); (rw [e9]; exact (u2_same _ _ _ _).trans (by rw [mk_n hbt]; try rfl))) (fun w hw => (u2_i (by omega)).trans (hin2 w (by omega))) (fun k i h => (u2_h h).trans (zhF2 k i h)) hw (lv_sub hl [1, 2, 3, 4, 5, 6, 7, 0] rfl)
                          · exact absurd c_29 (by first | omega | decide)
                      · have hp0 : pj = 0 := c_27
                        refine lv_iconst (v := nI 0) hx hb d_MO_settled_106 (by decide) ?_
                        refine lv_goto (tgt := 117) hx hb d_MO_settled_107 (by decide) ?_
                        refine lv_iload hx hb d_MO_settled_117 (lv_at hl 7 rfl) ?_
                        refine lv_iload hx hb d_MO_settled_119 (lv_at hl 5 rfl) ?_
                        refine lv_ishr hx hb d_MO_settled_121 ?_
                        refine lv_iconst (v := nI 1) hx hb d_MO_settled_122 (by decide) ?_
                        refine lv_iand hx hb d_MO_settled_123 ?_
                        rw [b_bit pj (by omega) z (by omega)]
                        by_cases hbt : z.testBit pj = true
                        · rw [if_pos hbt]
                          refine lv_iconst (v := nI 1) hx hb d_MO_settled_124 (by decide) ?_
                          refine q_icmp_ne (tgt := 133) hc (by omega) (by omega) d_MO_settled_125 (by decide) (fun c_30 => ?_) (fun c_30 => ?_)
                          · exact absurd c_30 (by first | omega | decide)
                          · refine lv_iload hx hb d_MO_settled_128 (lv_at hl 6 rfl) ?_
                            refine lv_goto (tgt := 134) hx hb d_MO_settled_130 (by decide) ?_
                            refine lv_iadd hx hb d_MO_settled_134 ?_
                            refine r_iast hc hw (h := 72) (n := 64) (i := z) (fun _ => rfl) (by omega) (by omega) (by decide) d_MO_settled_135 (fun H locs hw => ?_)
                            refine lv_iinc (v := nI (z + 1)) (lv' := [(7, .int (nI (z + 1))), (0, .ref (wad g 58)), (1, .int (nI zj0)), (2, .int (nI ((2 ^ pc) - 1))), (3, .int (nI ((cz (nnS (wK g) (cn, fr, to, hv, dy, an, af) zj0) pj) + 1))), (4, .int (nI (sbm (nnS (wK g) (cn, fr, to, hv, dy, an, af) zj0) pj + 2 ^ pj))), (5, .int (nI pj)), (6, .int ((nnS (wK g) (cn, fr, to, hv, dy, an, af) zj0) pj))]) hx hb d_MO_settled_136 hl (k := 7) rfl (nI_inc1 _) (by decide) rfl (fun ls hl => ?_)
                            refine lv_goto (tgt := 89) hx hb d_MO_settled_139 (by decide) ?_
                            exact ih_89 (z + 1) _ _ _ _ (by omega) (by omega) (fun w hw => by rcases (show w < z ∨ w = z by omega) with e9 | e9; exact (u2_i (by omega)).trans (hin w e9); (rw [e9]; exact (u2_same _ _ _ _).trans (by rw [mk_y hbt, mk_0 hp0]; try rfl))) (fun w hw => (u2_i (by omega)).trans (hin2 w (by omega))) (fun k i h => (u2_h h).trans (zhF2 k i h)) hw (lv_sub hl [1, 2, 3, 4, 5, 6, 7, 0] rfl)
                        · rw [if_neg hbt]
                          refine lv_iconst (v := nI 1) hx hb d_MO_settled_124 (by decide) ?_
                          refine q_icmp_ne (tgt := 133) hc (by omega) (by omega) d_MO_settled_125 (by decide) (fun c_31 => ?_) (fun c_31 => ?_)
                          · refine lv_iconst (v := nI 0) hx hb d_MO_settled_133 (by decide) ?_
                            refine lv_iadd hx hb d_MO_settled_134 ?_
                            refine r_iast hc hw (h := 72) (n := 64) (i := z) (fun _ => rfl) (by omega) (by omega) (by decide) d_MO_settled_135 (fun H locs hw => ?_)
                            refine lv_iinc (v := nI (z + 1)) (lv' := [(7, .int (nI (z + 1))), (0, .ref (wad g 58)), (1, .int (nI zj0)), (2, .int (nI ((2 ^ pc) - 1))), (3, .int (nI ((cz (nnS (wK g) (cn, fr, to, hv, dy, an, af) zj0) pj) + 1))), (4, .int (nI (sbm (nnS (wK g) (cn, fr, to, hv, dy, an, af) zj0) pj + 2 ^ pj))), (5, .int (nI pj)), (6, .int ((nnS (wK g) (cn, fr, to, hv, dy, an, af) zj0) pj))]) hx hb d_MO_settled_136 hl (k := 7) rfl (nI_inc1 _) (by decide) rfl (fun ls hl => ?_)
                            refine lv_goto (tgt := 89) hx hb d_MO_settled_139 (by decide) ?_
                            exact ih_89 (z + 1) _ _ _ _ (by omega) (by omega) (fun w hw => by rcases (show w < z ∨ w = z by omega) with e9 | e9; exact (u2_i (by omega)).trans (hin w e9); (rw [e9]; exact (u2_same _ _ _ _).trans (by rw [mk_n hbt, mk_0 hp0]; try rfl))) (fun w hw => (u2_i (by omega)).trans (hin2 w (by omega))) (fun k i h => (u2_h h).trans (zhF2 k i h)) hw (lv_sub hl [1, 2, 3, 4, 5, 6, 7, 0] rfl)
                          · exact absurd c_31 (by first | omega | decide)
                exact loop_89 _ 0 _ _ _ _ (Nat.lt_succ_self _) (by omega) (fun w hw => absurd hw (Nat.not_lt_zero w)) (fun _ _ => rfl) (zhF1) hw (lv_sub hl [4, 5, 6, 1, 2, 7, 3, 0] rfl)
      have hl : lv_has ls 8 [(5, .int (nI 0)), (4, .int (nI 0)), (3, .int (nI (cz (nnS (wK g) (cn, fr, to, hv, dy, an, af) zj0) 0))), (2, .int (nI ((2 ^ pc) - 1))), (0, .ref (wad g 58)), (1, .int (nI zj0))] := by rw [show cz (nnS (wK g) (cn, fr, to, hv, dy, an, af) zj0) 0 = 0 from by rfl]; exact hl
      have hl : lv_has ls 8 [(5, .int (nI 0)), (4, .int (nI (sbm (nnS (wK g) (cn, fr, to, hv, dy, an, af) zj0) 0))), (3, .int (nI (cz (nnS (wK g) (cn, fr, to, hv, dy, an, af) zj0) 0))), (2, .int (nI ((2 ^ pc) - 1))), (0, .ref (wad g 58)), (1, .int (nI zj0))] := by rw [show sbm (nnS (wK g) (cn, fr, to, hv, dy, an, af) zj0) 0 = 0 from by rfl]; exact hl
      exact loop_37 _ 0 _ _ _ _ (Nat.lt_succ_self _) (by omega) (fun h => absurd rfl h) (fun _ _ _ => rfl) hw (lv_sub hl [4, 5, 3, 2, 1, 0] rfl)
    · refine lv_bipush (v := (-3)) hx hb d_MO_settled_17 (by decide) ?_
      exact W_i hc hw hr hlocks (by refine ⟨congrArg (fun z => some (Value.int z)) ?_, rfl, hMI, (by repeat (first | exact FrO.rf _ _ _ | refine FrO.up ?_ (by omega) (by omega)))⟩; unfold s_settled; (try simp only [inN, rng, zj0_t, zj0_e]); (repeat' split) <;> first | (exfalso; omega) | contradiction | rfl) d_MO_settled_19
  · try unfold rng at c_1
    refine lv_bipush (v := (-2)) hx hb d_MO_settled_7 (by decide) ?_
    exact W_i hc hw hr hlocks (by refine ⟨congrArg (fun z => some (Value.int z)) ?_, rfl, hMI, (by repeat (first | exact FrO.rf _ _ _ | refine FrO.up ?_ (by omega) (by omega)))⟩; unfold s_settled; (try simp only [inN, rng]); (repeat' split) <;> first | (exfalso; omega) | contradiction | rfl) d_MO_settled_9
