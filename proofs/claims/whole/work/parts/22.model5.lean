/-! printed by wip/gen/meths11.py: what a post answers; the model, post -/
def pT (S : SSt) (k i : Int32) : Nat → Int32 := fun j => S.2.2 (tn k) (tn i + j)
def s_post (S : SSt) (k lane i n : Int32) : Int32 × Int32 × Option Nat := if rng k 0 3 then (if rng lane 0 2 then (if flt (S.1 (tn k)) (S.2.1 (tn k)) lane i n = 0 then (match ff (pT S k i) (tn n) with
    | some a => (-100 - nI a, nI 0, none)
    | none => (nI ((tn n - 1) / 3), nI 0, some ((tn n - 1) / 3))) else (fI (flt (S.1 (tn k)) (S.2.1 (tn k)) lane i n), nI (flt (S.1 (tn k)) (S.2.1 (tn k)) lane i n), none)) else (-2, nI 0, none)) else (-1, nI 0, none)
def pstP (S : SSt) (k i : Int32) (m : Nat) : PSt := (m, fun p => lfT (pT S k i (1 + 3 * p + 1)) (pT S k i (1 + 3 * p + 2)))
def pstK (S : SSt) (k i : Int32) (p : Nat) : Nat := kdT (pT S k i (1 + 3 * p))
def L0 (L : LSt) : LSt := (0, L.2)
section POSTS
variable {S : SSt} {k lane i n : Int32}
theorem s_post_1 (h : ¬ rng k 0 3) : s_post S k lane i n = (-1, nI 0, none) := by unfold s_post; rw [if_neg h]
theorem s_post_2 (h : rng k 0 3) (h2 : ¬ rng lane 0 2) : s_post S k lane i n = (-2, nI 0, none) := by unfold s_post; rw [if_pos h, if_neg h2]
theorem s_post_3 (h : rng k 0 3) (h2 : rng lane 0 2) {f : Nat} (hf : flt (S.1 (tn k)) (S.2.1 (tn k)) lane i n = f) (h3 : ¬ f = 0) : s_post S k lane i n = (fI f, nI f, none) := by unfold s_post; rw [if_pos h, if_pos h2, hf, if_neg h3]
theorem s_post_4 (h : rng k 0 3) (h2 : rng lane 0 2) (h3 : flt (S.1 (tn k)) (S.2.1 (tn k)) lane i n = 0) {a : Nat} (h4 : ff (pT S k i) (tn n) = some a) : s_post S k lane i n = (-100 - nI a, nI 0, none) := by unfold s_post; rw [if_pos h, if_pos h2, if_pos h3, h4]
theorem s_post_5 (h : rng k 0 3) (h2 : rng lane 0 2) (h3 : flt (S.1 (tn k)) (S.2.1 (tn k)) lane i n = 0) (h4 : ff (pT S k i) (tn n) = none) : s_post S k lane i n = (nI ((tn n - 1) / 3), nI 0, some ((tn n - 1) / 3)) := by unfold s_post; rw [if_pos h, if_pos h2, if_pos h3, h4]
end POSTS
theorem flt_ok {ln : Option Nat} {sz : Nat} {a b d : Int32} (h : flt ln sz a b d = 0) : rng b 0 sz ∧ rng d 0 (sz - b.toInt) := by
  unfold flt at h
  split at h; omega
  split at h; omega
  split at h; omega
  split at h
  · assumption
  · omega
/-- the model behind a post -/
def MPo (g1 : wG) (u : wF) (P : PSt) (lw : Nat) (L : LSt) (S : SSt) (tr : Int32) (k i : Int32) (r : Int32 × Option Nat) : Prop := (r.2 = none → MI g1 u P lw L S tr r.1) ∧ ∀ mm, r.2 = some mm → ∀ g9 : wG, (∀ p, p < mm → wK g9 p = pstK S k i p) → MI g9 u (pstP S k i mm) 0 (L0 L) S tr r.1
theorem MI_new {g1 g9 : wG} {F u : wF} {P P2 : PSt} {lw : Nat} {L : LSt} {S : SSt} {tr ft x : Int32} (h : MI g1 F P lw L S tr ft) (h5 : u 58 5 = nI P2.1) (hk : ∀ p, p < P2.1 → u 62 p = nI (wK g9 p) ∧ u 63 p = nI (P2.2 p)) (h6 : u 58 6 = nI 0) (h13 : u 58 13 = nI 0) (h1 : u 58 1 = F 58 1) (h0 : u 58 0 = x)
    (hF : ∀ k, 59 ≤ k → k ≤ 61 → u k = F k) : MI g9 u P2 0 (L0 L) S tr x :=
  ⟨⟨h5, hk⟩, h6, ⟨h13, fun k hk => absurd hk (Nat.not_lt_zero k)⟩, SM_c h.2.2.2.1 hF, h1.trans h.2.2.2.2.1, h0⟩
set_option maxHeartbeats 4000000 in
theorem c_MO_post (l : Launch) (D : va_G) (g : wG) (F : wF) (g1 : wG) (pc : Nat) (lf : Nat → Nat) (lw : Nat) (cn : Nat) (fr to hv dy : Nat → Nat) (an af : Nat → Option Nat) (ln : Nat → Option Nat) (sz : Nat → Nat) (ce : Nat → Nat → Int32) (tr ft : Int32) (hG : GI g1 (pc, lf) lw (cn, fr, to, hv, dy, an, af) (ln, sz, ce)) (hMI : MI g1 F (pc, lf) lw (cn, fr, to, hv, dy, an, af) (ln, sz, ce) tr ft) (zp0 zp1 zp2 zp3 : Int32) : CW l y_MO_post b_MO_post 8 (Option.some Jvm.ClassFile.FieldType.int) 5 0 0 D g F [.ref (wad g 58), .int zp0, .int zp1, .int zp2, .int zp3] (fun v g2 u => v = some (.int (s_post (ln, sz, ce) zp0 zp1 zp2 zp3).1) ∧ g = g2 ∧ MPo g1 u (pc, lf) lw (cn, fr, to, hv, dy, an, af) (ln, sz, ce) tr zp0 zp2 (s_post (ln, sz, ce) zp0 zp1 zp2 zp3).2 ∧ FrO 58 78 F u) := by
  refine CW.start rfl (Nat.le_of_ble_eq_true rfl) ?_
  intro p e s m args below meth c A ls hc hr hlocks hw hl
  have hl : lv_has ls 8 [(0, .ref (wad g 58)), (1, .int zp0), (2, .int zp1), (3, .int zp2), (4, .int zp3)] := hl
  have hx := hc.1
  have hb := hc.2.1
  have hI : LI pc cn fr to hv dy an af := hG.2.2.1
  have hSI : SI ln sz := hG.2.2.2
  have hSM : SM F ln sz ce := hMI.2.2.2.1
  refine lv_aload_n hx hb d_MO_post_0 rfl (lv_at hl 0 rfl) ?_
  refine lv_iconst (v := nI 0) hx hb d_MO_post_1 (by decide) ?_
  refine pf_MO_70 hc hw d_MO_post_2 (fun H locs hw => ?_)
  refine lv_iload_n hx hb d_MO_post_5 rfl (lv_at hl 1 rfl) ?_
  refine kRS hc hw lk_MO_83 (As := [.int zp0]) (rest := []) (c_MO_isSheet l D g _ (zp0)) ⟨Nat.le_of_ble_eq_true rfl, Nat.le_of_ble_eq_true rfl⟩ ⟨Nat.le_refl _, Nat.le_refl _⟩ rfl hl rfl (Nat.le_of_ble_eq_true rfl) d_MO_post_6 ?_
  refine b_if_ne (tgt := 14) hc d_MO_post_9 (by decide) (fun c_1 => ?_) (fun c_1 => ?_)
  · obtain ⟨zj0, rfl, zj0_1, zj0_2⟩ := rng_nat c_1 (by decide)
    have zj0_e := nI_tI (j := zj0) (by omega)
    have zj0_t := tn_nI (j := zj0) (by omega)
    try unfold rng at c_1
    refine lv_iload_n hx hb d_MO_post_14 rfl (lv_at hl 2 rfl) ?_
    refine kRS hc hw lk_MO_87 (As := [.int zp1]) (rest := []) (c_MO_isSort l D g _ (zp1)) ⟨Nat.le_of_ble_eq_true rfl, Nat.le_of_ble_eq_true rfl⟩ ⟨Nat.le_refl _, Nat.le_refl _⟩ rfl hl rfl (Nat.le_of_ble_eq_true rfl) d_MO_post_15 ?_
    refine b_if_ne (tgt := 24) hc d_MO_post_18 (by decide) (fun c_2 => ?_) (fun c_2 => ?_)
    · obtain ⟨zj1, rfl, zj1_1, zj1_2⟩ := rng_nat c_2 (by decide)
      have zj1_e := nI_tI (j := zj1) (by omega)
      have zj1_t := tn_nI (j := zj1) (by omega)
      try unfold rng at c_2
      refine lv_aload_n hx hb d_MO_post_24 rfl (lv_at hl 0 rfl) ?_
      refine lv_iload_n hx hb d_MO_post_25 rfl (lv_at hl 1 rfl) ?_
      refine lv_iload_n hx hb d_MO_post_26 rfl (lv_at hl 2 rfl) ?_
      refine lv_iload_n hx hb d_MO_post_27 rfl (lv_at hl 3 rfl) ?_
      refine lv_iload hx hb d_MO_post_28 (lv_at hl 4 rfl) ?_
      refine kRV hc hw lk_MO_90 (As := [.int (nI zj0), .int (nI zj1), .int zp2, .int zp3]) (rest := []) (c_MO_against l D g _ zj0 (by omega) (ln zj0) (hSI zj0 (by omega)).2 (sz zj0) (hSI zj0 (by omega)).1 ((u2_h (by decide)).trans (hSM zj0 (by omega)).1) ((u2_h (by decide)).trans (hSM zj0 (by omega)).2.1) (nI zj1) (zp2) (zp3)) (rc_MO hw) ⟨Nat.le_of_ble_eq_true rfl, Nat.le_of_ble_eq_true rfl⟩ ⟨Nat.le_refl _, Nat.le_refl _⟩ rfl hl rfl (Nat.le_of_ble_eq_true rfl) d_MO_post_30 ?_
      refine lv_istore (lv' := [(5, .int (nI (flt (ln zj0) (sz zj0) (nI zj1) zp2 zp3))), (0, .ref (wad g 58)), (1, .int (nI zj0)), (2, .int (nI zj1)), (3, .int zp2), (4, .int zp3)]) hx hb d_MO_post_33 hl (by decide) rfl (fun ls hl => ?_)
      refine lv_iload hx hb d_MO_post_35 (lv_at hl 0 rfl) ?_
      refine q_if_eq (tgt := 47) hc (Nat.lt_of_le_of_lt (flt_le _ _ _ _ _) (by decide)) d_MO_post_37 (by decide) (fun c_3 => ?_) (fun c_3 => ?_)
      · have hfl := c_3
        obtain ⟨hz1, hz2⟩ := flt_ok hfl
        have hsz := (hSI zj0 (by omega)).1
        obtain ⟨zj2, rfl, zj2_1, zj2_2⟩ := rng_nat (x := zp2) (a := 0) (b := (sz zj0 : Int)) hz1 (by decide)
        have zj2_e := nI_tI (j := zj2) (by omega)
        have zj2_t := tn_nI (j := zj2) (by omega)
        rw [zj2_e] at hz2
        obtain ⟨zj3, rfl, zj3_1, zj3_2⟩ := rng_nat (x := zp3) (a := 0) (b := ((sz zj0 : Int) - (zj2 : Int))) hz2 (by decide)
        have zj3_e := nI_tI (j := zj3) (by omega)
        have zj3_t := tn_nI (j := zj3) (by omega)
        have hpt : pT (ln, sz, ce) (nI zj0) (nI zj2) = (fun a => ce zj0 (zj2 + a)) := by unfold pT; rw [zj0_t, zj2_t]
        refine lv_bipush (v := nI 40) hx hb d_MO_post_47 (by decide) ?_
        refine lv_iload_n hx hb d_MO_post_49 rfl (lv_at hl 2 rfl) ?_
        refine q_imul hc d_MO_post_50 ?_
        refine lv_iload_n hx hb d_MO_post_51 rfl (lv_at hl 4 rfl) ?_
        refine q_iadd hc d_MO_post_52 ?_
        refine lv_istore (lv' := [(6, .int (nI ((40 * zj0) + zj2))), (5, .int (nI (flt (ln zj0) (sz zj0) (nI zj1) (nI zj2) (nI zj3)))), (0, .ref (wad g 58)), (1, .int (nI zj0)), (2, .int (nI zj1)), (3, .int (nI zj2)), (4, .int (nI zj3))]) hx hb d_MO_post_53 hl (by decide) rfl (fun ls hl => ?_)
        refine lv_aload_n hx hb d_MO_post_55 rfl (lv_at hl 2 rfl) ?_
        refine lv_iload hx hb d_MO_post_56 (lv_at hl 0 rfl) ?_
        refine pf_MO_98 hc hw d_MO_post_58 (fun H locs hw => ?_)
        refine lv_aload_n hx hb d_MO_post_61 rfl (lv_at hl 2 rfl) ?_
        refine lv_iload hx hb d_MO_post_62 (lv_at hl 0 rfl) ?_
        refine lv_iload hx hb d_MO_post_64 (lv_at hl 6 rfl) ?_
        refine q_iadd hc d_MO_post_66 ?_
        refine kWV hc hw lk_MO_101 (h := 58) (As := [.int (nI (((40 * zj0) + zj2) + zj3))]) (rest := []) (c_MO_readPost l D g _ (fun a => ce zj0 (zj2 + a)) (40 * zj0 + zj2) zj3 (by omega) (fun a ha => by rw [u2_h (by decide), u2_h (by decide), Nat.add_assoc]; exact (hSM zj0 (by omega)).2.2 (zj2 + a) (by omega)) (u2_same _ _ _ _)) (rc_MO hw) ⟨Nat.le_of_ble_eq_true rfl, Nat.le_of_ble_eq_true rfl⟩ ⟨Nat.le_refl _, Nat.le_refl _⟩ rfl hl rfl (Nat.le_of_ble_eq_true rfl) d_MO_post_67 (fun v_4 g_5 F_6 H locs zhp_7 hw => ?_)
        obtain ⟨rfl, hcase, hrf⟩ := zhp_7
        rcases hcase with ⟨rfl, hff5, mm, hm2, hm6, hjm, h10, hkk⟩ | ⟨rfl, za, hff4, hza, h9⟩
        · refine q_if_ne (tgt := 84) hc (by omega) d_MO_post_70 (by decide) (fun c_8 => ?_) (fun c_8 => ?_)
          · refine lv_aload_n hx hb d_MO_post_84 rfl (lv_at hl 2 rfl) ?_
            refine lv_aload_n hx hb d_MO_post_85 rfl (lv_at hl 2 rfl) ?_
            refine gf_MO_104 hc hw d_MO_post_86 (v := .int (nI mm)) (congrArg Value.int (h10)) ?_
            refine pf_MO_80 hc hw d_MO_post_89 (fun H locs hw => ?_)
            refine lv_iconst (v := nI 0) hx hb d_MO_post_92 (by decide) ?_
            refine lv_istore (lv' := [(7, .int (nI 0)), (6, .int (nI ((40 * zj0) + zj2))), (5, .int (nI (flt (ln zj0) (sz zj0) (nI zj1) (nI zj2) (nI zj3)))), (0, .ref (wad g 58)), (1, .int (nI zj0)), (2, .int (nI zj1)), (3, .int (nI zj2)), (4, .int (nI zj3))]) hx hb d_MO_post_93 hl (by decide) rfl (fun ls hl => ?_)
            have loop_95 : ∀ (n_95 : Nat) (i : Nat) (F2 : wF) (H : Heap) (locs : List Loc) (ls : Array Slot), (mm - i) < n_95 → (i ≤ mm) → (∀ z, z < i → F2 62 z = nI (kdT (ce zj0 (zj2 + (1 + 3 * z)))) ∧ F2 63 z = nI (lfT (ce zj0 (zj2 + (1 + 3 * z + 1))) (ce zj0 (zj2 + (1 + 3 * z + 2))))) → (∀ k z, k ≠ 62 → k ≠ 63 → F2 k z = (u2 F_6 58 5 (nI mm)) k z) → Wd D g F2 A s.heap H locs s → lv_has ls 8 [(0, .ref (wad g 58)), (1, .int (nI zj0)), (2, .int (nI zj1)), (3, .int (nI zj2)), (4, .int (nI zj3)), (5, .int (nI (flt (ln zj0) (sz zj0) (nI zj1) (nI zj2) (nI zj3)))), (6, .int (nI ((40 * zj0) + zj2))), (7, .int (nI i))] → W p l e (rmc 5 0 0) s m args below meth c H locs 0 0 (MQ below (Qw (fun v g2 u => v = some (.int (s_post (ln, sz, ce) (nI zj0) (nI zj1) (nI zj2) (nI zj3)).1) ∧ g = g2 ∧ MPo g1 u (pc, lf) lw (cn, fr, to, hv, dy, an, af) (ln, sz, ce) tr (nI zj0) (nI zj2) (s_post (ln, sz, ce) (nI zj0) (nI zj1) (nI zj2) (nI zj3)).2 ∧ FrO 58 78 F u) (Bw D A) A) args s 0 0 A) (F0 m 95 ls []) := by
              intro n_95
              induction n_95 with
              | zero => intro i F2 H locs ls hm; exact absurd hm (Nat.not_lt_zero _)
              | succ n_95 ih_95 =>
                intro i F2 H locs ls hm_95 hi hk2 zhF2 hw hl
                refine lv_iload hx hb d_MO_post_95 (lv_at hl 7 rfl) ?_
                refine lv_aload_n hx hb d_MO_post_97 rfl (lv_at hl 0 rfl) ?_
                refine gf_MO_80 hc hw d_MO_post_98 (v := .int (nI mm)) (congrArg Value.int ((zhF2 58 5 (by decide) (by decide)).trans (u2_same _ _ _ _))) ?_
                refine q_icmp_ge (tgt := 138) hc (by omega) (by omega) d_MO_post_101 (by decide) (fun c_9 => ?_) (fun c_9 => ?_)
                · refine lv_aload_n hx hb d_MO_post_138 rfl (lv_at hl 0 rfl) ?_
                  refine lv_iconst (v := nI 0) hx hb d_MO_post_139 (by decide) ?_
                  refine pf_MO_107 hc hw d_MO_post_140 (fun H locs hw => ?_)
                  refine lv_aload_n hx hb d_MO_post_143 rfl (lv_at hl 0 rfl) ?_
                  refine lv_iconst (v := nI 0) hx hb d_MO_post_144 (by decide) ?_
                  refine pf_MO_110 hc hw d_MO_post_145 (fun H locs hw => ?_)
                  refine lv_aload_n hx hb d_MO_post_148 rfl (lv_at hl 0 rfl) ?_
                  refine gf_MO_80 hc hw d_MO_post_149 (v := .int (nI mm)) (congrArg Value.int ((u2_i (by decide)).trans ((u2_i (by decide)).trans ((zhF2 58 5 (by decide) (by decide)).trans (u2_same _ _ _ _))))) ?_
                  exact W_i hc hw hr hlocks (by
      rw [s_post_5 (by assumption) (by assumption) (by rw [zj0_t]; exact hfl) (by rw [hpt, zj3_t]; exact hff5), zj3_t, show (zj3 - 1) / 3 = mm by omega]
      refine ⟨rfl, rfl, ⟨fun q => (by cases q), fun _ q g9 h9 => ?_⟩, ?_⟩
      · cases q
        refine MI_new hMI ((u2_i (by decide)).trans ((u2_i (by decide)).trans ((zhF2 58 5 (by decide) (by decide)).trans (u2_same _ _ _ _)))) (fun z hz => ?_) ((u2_i (by decide)).trans (u2_same _ _ _ _)) (u2_same _ _ _ _) ?_ ?_ (fun k hk hk2 => funext fun z => ?_)
        · have hzm : z < mm := hz
          rw [h9 z hzm]
          refine ⟨(u2_h (by decide)).trans ((u2_h (by decide)).trans ((hk2 z (by omega)).1.trans ?_)), (u2_h (by decide)).trans ((u2_h (by decide)).trans ((hk2 z (by omega)).2.trans ?_))⟩
          · unfold pstK; rw [hpt]
          · unfold pstP; rw [hpt]
        all_goals (rw [u2_ij2 (by omega), u2_ij2 (by omega), zhF2 _ _ (by omega) (by omega), u2_ij2 (by omega), hrf _ _ (by omega) (by omega) (by omega)]; simp only [u2]; repeat (first | rw [if_neg (by omega)] | rw [if_pos (by omega)] | rw [if_pos ⟨trivial, trivial⟩]))
      · exact fun k hk => funext fun z => by rw [u2_ij2 (by omega), u2_ij2 (by omega), zhF2 _ _ (by omega) (by omega), u2_ij2 (by omega), hrf _ _ (by omega) (by omega) (by omega)]; simp only [u2]; repeat (rw [if_neg (by omega)])) d_MO_post_152
                · refine lv_aload_n hx hb d_MO_post_104 rfl (lv_at hl 0 rfl) ?_
                  refine gf_MO_19 hc hw d_MO_post_105 ?_
                  refine lv_iload hx hb d_MO_post_108 (lv_at hl 7 rfl) ?_
                  refine lv_aload_n hx hb d_MO_post_110 rfl (lv_at hl 0 rfl) ?_
                  refine gf_MO_25 hc hw d_MO_post_111 ?_
                  refine lv_iload hx hb d_MO_post_114 (lv_at hl 7 rfl) ?_
                  refine r_iald hc hw (h := 64) (n := 6) (i := i) (fun _ => rfl) (by omega) (by omega) (by decide) d_MO_post_116 (v := .int (nI (kdT (ce zj0 (zj2 + (1 + 3 * i)))))) (congrArg Value.int ((zhF2 64 i (by decide) (by decide)).trans ((u2_h (by decide)).trans ((hkk i (by omega)).1)))) ?_
                  refine r_iast hc hw (h := 62) (n := 6) (i := i) (fun _ => rfl) (by omega) (by omega) (by decide) d_MO_post_117 (fun H locs hw => ?_)
                  refine lv_aload_n hx hb d_MO_post_118 rfl (lv_at hl 0 rfl) ?_
                  refine gf_MO_22 hc hw d_MO_post_119 ?_
                  refine lv_iload hx hb d_MO_post_122 (lv_at hl 7 rfl) ?_
                  refine lv_aload_n hx hb d_MO_post_124 rfl (lv_at hl 0 rfl) ?_
                  refine gf_MO_28 hc hw d_MO_post_125 ?_
                  refine lv_iload hx hb d_MO_post_128 (lv_at hl 7 rfl) ?_
                  refine r_iald hc hw (h := 65) (n := 6) (i := i) (fun _ => rfl) (by omega) (by omega) (by decide) d_MO_post_130 (v := .int (nI (lfT (ce zj0 (zj2 + (1 + 3 * i + 1))) (ce zj0 (zj2 + (1 + 3 * i + 2)))))) (congrArg Value.int ((u2_h (by decide)).trans ((zhF2 65 i (by decide) (by decide)).trans ((u2_h (by decide)).trans ((hkk i (by omega)).2))))) ?_
                  refine r_iast hc hw (h := 63) (n := 6) (i := i) (fun _ => rfl) (by omega) (by omega) (by decide) d_MO_post_131 (fun H locs hw => ?_)
                  refine lv_iinc (v := nI (i + 1)) (lv' := [(7, .int (nI (i + 1))), (0, .ref (wad g 58)), (1, .int (nI zj0)), (2, .int (nI zj1)), (3, .int (nI zj2)), (4, .int (nI zj3)), (5, .int (nI (flt (ln zj0) (sz zj0) (nI zj1) (nI zj2) (nI zj3)))), (6, .int (nI ((40 * zj0) + zj2)))]) hx hb d_MO_post_132 hl (k := 7) rfl (nI_inc1 _) (by decide) rfl (fun ls hl => ?_)
                  refine lv_goto (tgt := 95) hx hb d_MO_post_135 (by decide) ?_
                  exact ih_95 (i + 1) _ _ _ _ (by omega) (by omega) (fun z hz => by rcases (show z < i ∨ z = i by omega) with e | e; exact ⟨(u2_h (by decide)).trans ((u2_i (by omega)).trans (hk2 z e).1), (u2_i (by omega)).trans ((u2_h (by decide)).trans (hk2 z e).2)⟩; (rw [e]; exact ⟨(u2_h (by decide)).trans (u2_same _ _ _ _), u2_same _ _ _ _⟩)) (fun k z h1 h2 => by rw [u2_ij2 (by omega), u2_ij2 (by omega)]; exact zhF2 k z h1 h2) hw (lv_sub hl [1, 2, 3, 4, 5, 6, 7, 0] rfl)
            exact loop_95 _ 0 _ _ _ _ (Nat.lt_succ_self _) (by omega) (fun z hz => absurd hz (Nat.not_lt_zero z)) (fun _ _ _ _ => rfl) hw (lv_sub hl [3, 4, 5, 6, 7, 2, 1, 0] rfl)
          · exact absurd c_8 (by first | omega | decide)
        · refine q_if_ne (tgt := 84) hc (by omega) d_MO_post_70 (by decide) (fun c_10 => ?_) (fun c_10 => ?_)
          · exact absurd c_10 (by first | omega | decide)
          · refine lv_bipush (v := (-100)) hx hb d_MO_post_73 (by decide) ?_
            refine lv_aload_n hx hb d_MO_post_75 rfl (lv_at hl 2 rfl) ?_
            refine gf_MO_98 hc hw d_MO_post_76 (v := .int (nI (40 * zj0 + zj2 + za))) (congrArg Value.int (h9)) ?_
            refine lv_iload hx hb d_MO_post_79 (lv_at hl 0 rfl) ?_
            refine q_isub hc (by omega) d_MO_post_81 ?_
            refine lv_isub hx hb d_MO_post_82 ?_
            exact W_i hc hw hr hlocks (by rw [s_post_4 (a := za) (by assumption) (by assumption) (by rw [zj0_t]; exact hfl) (by rw [hpt, zj3_t]; exact hff4)]; refine ⟨by rw [show 40 * zj0 + zj2 + za - (40 * zj0 + zj2) = za by omega], rfl, ⟨fun _ => MI_x (MI_ft hMI (nI 0)) (fun k z hz => (hrf k z (by omega) (by omega) (by omega)).trans (u2_ij2 (by omega))), fun _ q => by cases q⟩, ?_⟩; exact fun k hk => funext fun z => (hrf k z (by omega) (by omega) (by omega)).trans (by simp only [u2]; repeat (rw [if_neg (by omega)]))) d_MO_post_83
      · have hfl := c_3
        refine lv_aload_n hx hb d_MO_post_40 rfl (lv_at hl 1 rfl) ?_
        refine lv_iload hx hb d_MO_post_41 (lv_at hl 0 rfl) ?_
        refine kWV hc hw lk_MO_94 (h := 58) (As := [.int (nI (flt (ln zj0) (sz zj0) (nI zj1) zp2 zp3))]) (rest := []) (c_MO_fails l D g _ (flt (ln zj0) (sz zj0) (nI zj1) zp2 zp3)) (rc_MO hw) ⟨Nat.le_of_ble_eq_true rfl, Nat.le_of_ble_eq_true rfl⟩ ⟨Nat.le_refl _, Nat.le_refl _⟩ rfl hl rfl (Nat.le_of_ble_eq_true rfl) d_MO_post_43 (fun v_11 g_12 F_13 H locs zhp_14 hw => ?_)
        obtain ⟨rfl, rfl, rfl⟩ := zhp_14
        exact W_i hc hw hr hlocks (by rw [s_post_3 (f := (flt (ln zj0) (sz zj0) (nI zj1) zp2 zp3)) (by assumption) (by assumption) (by rw [zj0_t]) hfl]; exact ⟨rfl, rfl, ⟨fun _ => MI_ft (MI_ft hMI _) _, fun _ q => by cases q⟩, (by repeat (first | exact FrO.rf _ _ _ | refine FrO.up ?_ (by omega) (by omega)))⟩) d_MO_post_46
    · try unfold rng at c_2
      refine lv_bipush (v := (-2)) hx hb d_MO_post_21 (by decide) ?_
      exact W_i hc hw hr hlocks (by rw [s_post_2 (by assumption) (by assumption)]; exact ⟨rfl, rfl, ⟨fun _ => MI_ft hMI _, fun _ q => by cases q⟩, (by repeat (first | exact FrO.rf _ _ _ | refine FrO.up ?_ (by omega) (by omega)))⟩) d_MO_post_23
  · try unfold rng at c_1
    refine lv_iconst (v := (-1)) hx hb d_MO_post_12 (by decide) ?_
    exact W_i hc hw hr hlocks (by rw [s_post_1 (by assumption)]; exact ⟨rfl, rfl, ⟨fun _ => MI_ft hMI _, fun _ q => by cases q⟩, (by repeat (first | exact FrO.rf _ _ _ | refine FrO.up ?_ (by omega) (by omega)))⟩) d_MO_post_13
