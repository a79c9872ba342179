/-! printed by wip/gen/meths25.py: the post -/
theorem gos_c {c c' : Nat → Int32} {n a : Nat} (h : ∀ b, b < n → c b = c' b) (ha : a < n) : gos c a = gos c' a := by
  unfold gos
  rw [h a ha]
  by_cases h0 : a = 0
  · rw [if_pos h0, if_pos h0, h 0 (by omega)]
  · rw [h (a - 1) (by omega)]
    rw [if_neg h0, if_neg h0]
theorem ff_c {c c' : Nat → Int32} {n : Nat} (h : ∀ b, b < n → c b = c' b) : ff c n = ff c' n := by
  have h1 : ∀ f a, a + f ≤ n → ffr c n f a = ffr c' n f a := by
    intro f
    induction f with
    | zero => intro a _; rfl
    | succ f ih =>
      intro a ha
      show (if gos c a then _ else _) = (if gos c' a then _ else _)
      rw [gos_c h (show a < n by omega), ih (a + 1) (by omega)]
  exact h1 n 0 (by omega)
theorem ff_le {c : Nat → Int32} {n a : Nat} (h : ff c n = some a) : a ≤ n := by
  have h1 : ∀ f b, b + f = n → ∀ a, ffr c n f b = some a → a ≤ n := by
    intro f
    induction f with
    | zero =>
      intro b _ a ha
      have ha2 : (if n = 1 + 3 * ((n - 1) / 3) ∧ 2 ≤ (n - 1) / 3 then none else some n) = some a := ha
      split at ha2
      · cases ha2
      · cases ha2; exact Nat.le_refl _
    | succ f ih =>
      intro b hb a ha
      have ha2 : (if gos c b then ffr c n f (b + 1) else some b) = some a := ha
      split at ha2
      · exact ih (b + 1) (by omega) a ha2
      · cases ha2; omega
  exact h1 n 0 (by omega) a h
set_option maxHeartbeats 4000000 in
theorem c_LE_burnLast_all (l : Launch) (D : va_G) (g : wG) (F : wF) (cn : Nat) (af : Nat → Option Nat) (hcn : cn ≤ 24) (h11 : F 11 7 = nI cn) (h18 : ∀ k, k < cn → F 18 k = oI (af k)) (haf : ∀ k, k < cn → ∀ x, af k = some x → x < k) : CW l y_LE_burnLast b_LE_burnLast 3 (Option.none) 1 0 0 D g F [.ref (wad g 11), .int (nI cn)] (fun v g2 u => v = none ∧ g = g2 ∧ u 11 7 = nI 0 ∧ ∀ h z, ¬ (h = 11 ∧ z = 7) → h ≠ 17 → u h z = F h z) := by
  refine CW.start rfl (Nat.le_of_ble_eq_true rfl) ?_
  intro p e s m args below meth c A ls hc hr hlocks hw hl
  have hl : lv_has ls 3 [(0, .ref (wad g 11)), (1, .int (nI cn))] := hl
  have hx := hc.1
  have hb := hc.2.1
  refine lv_iconst (v := nI 0) hx hb d_LE_burnLast_0 (by decide) ?_
  refine lv_istore_n (lv' := [(2, .int (nI 0)), (0, .ref (wad g 11)), (1, .int (nI cn))]) hx hb d_LE_burnLast_1 rfl hl (by decide) rfl (fun ls hl => ?_)
  have loop_2 : ∀ (n_2 : Nat) (b : Nat) (F1 : wF) (H : Heap) (locs : List Loc) (ls : Array Slot), (cn - b) < n_2 → (b ≤ cn) → (F1 11 7 = nI (cn - b)) → (∀ h z, ¬ (h = 11 ∧ z = 7) → h ≠ 17 → F1 h z = F h z) → Wd D g F1 A s.heap H locs s → lv_has ls 3 [(0, .ref (wad g 11)), (1, .int (nI cn)), (2, .int (nI b))] → W p l e (rmc 1 0 0) s m args below meth c H locs 0 0 (MQ below (Qw (fun v g2 u => v = none ∧ g = g2 ∧ u 11 7 = nI 0 ∧ ∀ h z, ¬ (h = 11 ∧ z = 7) → h ≠ 17 → u h z = F h z) (Bw D A) A) args s 0 0 A) (F0 m 2 ls []) := by
    intro n_2
    induction n_2 with
    | zero => intro b F1 H locs ls hm; exact absurd hm (Nat.not_lt_zero _)
    | succ n_2 ih_2 =>
      intro b F1 H locs ls hm_2 hbk zhB zhF1 hw hl
      refine lv_iload_n hx hb d_LE_burnLast_2 rfl (lv_at hl 2 rfl) ?_
      refine lv_iload_n hx hb d_LE_burnLast_3 rfl (lv_at hl 1 rfl) ?_
      refine q_icmp_ge (tgt := 62) hc (by omega) (by omega) d_LE_burnLast_4 (by decide) (fun c_1 => ?_) (fun c_1 => ?_)
      · exact W_v hc hw hr hlocks (⟨rfl, rfl, zhB.trans (congrArg nI (by omega)), zhF1⟩) d_LE_burnLast_62
      · obtain ⟨c0, hc0⟩ : ∃ c0, cn - b = c0 + 1 := ⟨cn - b - 1, by omega⟩
        rw [hc0] at zhB
        refine lv_aload_n hx hb d_LE_burnLast_7 rfl (lv_at hl 0 rfl) ?_
        refine gf_LE_33 hc hw d_LE_burnLast_8 (v := .int (nI (c0 + 1))) (congrArg Value.int (zhB)) ?_
        refine q_if_le (tgt := 62) hc (by omega) d_LE_burnLast_11 (by decide) (fun c_2 => ?_) (fun c_2 => ?_)
        · exact W_v hc hw hr hlocks (⟨rfl, rfl, zhB.trans (congrArg nI (by omega)), zhF1⟩) d_LE_burnLast_62
        · refine lv_aload_n hx hb d_LE_burnLast_14 rfl (lv_at hl 0 rfl) ?_
          refine lv_dup hx hb d_LE_burnLast_15 rfl ?_
          refine gf_LE_33 hc hw d_LE_burnLast_16 (v := .int (nI (c0 + 1))) (congrArg Value.int (zhB)) ?_
          refine lv_iconst (v := nI 1) hx hb d_LE_burnLast_19 (by decide) ?_
          refine q_isub hc (by omega) d_LE_burnLast_20 ?_
          rw [show c0 + 1 - 1 = c0 from rfl]
          refine pf_LE_33 hc hw d_LE_burnLast_21 (fun H locs hw => ?_)
          rcases ho : af c0 with _ | x
          · refine lv_aload_n hx hb d_LE_burnLast_24 rfl (lv_at hl 0 rfl) ?_
            refine lv_aload_n hx hb d_LE_burnLast_25 rfl (lv_at hl 0 rfl) ?_
            refine gf_LE_30 hc hw d_LE_burnLast_26 ?_
            refine lv_aload_n hx hb d_LE_burnLast_29 rfl (lv_at hl 0 rfl) ?_
            refine gf_LE_33 hc hw d_LE_burnLast_30 (v := .int (nI c0)) (congrArg Value.int (u2_same _ _ _ _)) ?_
            refine r_iald hc hw (h := 18) (n := 24) (i := c0) (fun _ => rfl) (by omega) (by omega) (by decide) d_LE_burnLast_33 (v := .int ((-9))) (congrArg Value.int ((u2_h (by decide)).trans ((zhF1 18 c0 (by omega) (by omega)).trans ((h18 c0 (by omega)).trans (by rw [ho]; rfl))))) ?_
            refine kRV hc hw lk_LE_37 (As := [.int ((-9))]) (rest := []) (c_LE_has l D g _ c0 (u2_same _ _ _ _) (by omega) ((-9))) (rc_LE hw) ⟨Nat.le_of_ble_eq_true rfl, Nat.le_of_ble_eq_true rfl⟩ ⟨Nat.le_refl _, Nat.le_refl _⟩ rfl hl rfl (Nat.le_of_ble_eq_true rfl) d_LE_burnLast_34 ?_
            refine b_if_eq (tgt := 56) hc d_LE_burnLast_37 (by decide) (fun c_3 => ?_) (fun c_3 => ?_)
            · try unfold inN at c_3
              refine lv_iinc (v := nI (b + 1)) (lv' := [(2, .int (nI (b + 1))), (0, .ref (wad g 11)), (1, .int (nI cn))]) hx hb d_LE_burnLast_56 hl (k := 2) rfl (nI_inc1 _) (by decide) rfl (fun ls hl => ?_)
              refine lv_goto (tgt := 2) hx hb d_LE_burnLast_59 (by decide) ?_
              exact ih_2 (b + 1) _ _ _ _ (by omega) (by omega) (((u2_same _ _ _ _).trans (congrArg nI (by omega)))) (fun h z h1 h2 => (u2_ij2 h1).trans (zhF1 h z h1 h2)) hw (lv_sub hl [1, 2, 0] rfl)
            · exact absurd c_3.1 (by decide)
          · have hx1 := haf c0 (by omega) x ho
            refine lv_aload_n hx hb d_LE_burnLast_24 rfl (lv_at hl 0 rfl) ?_
            refine lv_aload_n hx hb d_LE_burnLast_25 rfl (lv_at hl 0 rfl) ?_
            refine gf_LE_30 hc hw d_LE_burnLast_26 ?_
            refine lv_aload_n hx hb d_LE_burnLast_29 rfl (lv_at hl 0 rfl) ?_
            refine gf_LE_33 hc hw d_LE_burnLast_30 (v := .int (nI c0)) (congrArg Value.int (u2_same _ _ _ _)) ?_
            refine r_iald hc hw (h := 18) (n := 24) (i := c0) (fun _ => rfl) (by omega) (by omega) (by decide) d_LE_burnLast_33 (v := .int (nI x)) (congrArg Value.int ((u2_h (by decide)).trans ((zhF1 18 c0 (by omega) (by omega)).trans ((h18 c0 (by omega)).trans (by rw [ho]; rfl))))) ?_
            refine kRV hc hw lk_LE_37 (As := [.int (nI x)]) (rest := []) (c_LE_has l D g _ c0 (u2_same _ _ _ _) (by omega) (nI x)) (rc_LE hw) ⟨Nat.le_of_ble_eq_true rfl, Nat.le_of_ble_eq_true rfl⟩ ⟨Nat.le_refl _, Nat.le_refl _⟩ rfl hl rfl (Nat.le_of_ble_eq_true rfl) d_LE_burnLast_34 ?_
            refine b_if_eq (tgt := 56) hc d_LE_burnLast_37 (by decide) (fun c_4 => ?_) (fun c_4 => ?_)
            · exact absurd ((inN_nI (by omega)).mpr hx1) c_4
            · try unfold inN at c_4
              refine lv_aload_n hx hb d_LE_burnLast_40 rfl (lv_at hl 0 rfl) ?_
              refine gf_LE_27 hc hw d_LE_burnLast_41 ?_
              refine lv_aload_n hx hb d_LE_burnLast_44 rfl (lv_at hl 0 rfl) ?_
              refine gf_LE_30 hc hw d_LE_burnLast_45 ?_
              refine lv_aload_n hx hb d_LE_burnLast_48 rfl (lv_at hl 0 rfl) ?_
              refine gf_LE_33 hc hw d_LE_burnLast_49 (v := .int (nI c0)) (congrArg Value.int (u2_same _ _ _ _)) ?_
              refine r_iald hc hw (h := 18) (n := 24) (i := c0) (fun _ => rfl) (by omega) (by omega) (by decide) d_LE_burnLast_52 (v := .int (nI x)) (congrArg Value.int ((u2_h (by decide)).trans ((zhF1 18 c0 (by omega) (by omega)).trans ((h18 c0 (by omega)).trans (by rw [ho]; rfl))))) ?_
              refine lv_bipush (v := (-9)) hx hb d_LE_burnLast_53 (by decide) ?_
              refine r_iast hc hw (h := 17) (n := 24) (i := x) (fun _ => rfl) (by omega) (by omega) (by decide) d_LE_burnLast_55 (fun H locs hw => ?_)
              refine lv_iinc (v := nI (b + 1)) (lv' := [(2, .int (nI (b + 1))), (0, .ref (wad g 11)), (1, .int (nI cn))]) hx hb d_LE_burnLast_56 hl (k := 2) rfl (nI_inc1 _) (by decide) rfl (fun ls hl => ?_)
              refine lv_goto (tgt := 2) hx hb d_LE_burnLast_59 (by decide) ?_
              exact ih_2 (b + 1) _ _ _ _ (by omega) (by omega) ((u2_h (by decide)).trans ((u2_same _ _ _ _).trans (congrArg nI (by omega)))) (fun h z h1 h2 => (u2_h h2).trans ((u2_ij2 h1).trans (zhF1 h z h1 h2))) hw (lv_sub hl [1, 2, 0] rfl)
  exact loop_2 _ 0 _ _ _ _ (Nat.lt_succ_self _) (Nat.zero_le _) (h11) (fun _ _ _ _ => rfl) hw (lv_sub hl [1, 2, 0] rfl)
set_option maxHeartbeats 4000000 in
theorem c_AP_settle (l : Launch) (D : va_G) (g : wG) (F : wF) (g0 : wG) (hg0 : ∀ h, h < 79 → wad g h = wad g0 h) (rk fr n mm cn : Nat) (cq : Nat → Int32) (af : Nat → Option Nat) (hrk : rk < 4) (hn : n = 1 + 3 * mm) (hm6 : mm ≤ 6) (hfr : fr + n ≤ 40) (hcq : ∀ a, a < n → F (2 * rk + 3) (fr + a) = cq a) (hg : ∀ a, a < n → gos cq a = true) (hm9 : wm g ≤ 6) (hcn : cn ≤ 24) (h11 : F 11 7 = nI cn) (h18 : ∀ k, k < cn → F 18 k = oI (af k)) (haf : ∀ k, k < cn → ∀ x, af k = some x → x < k) : CW l y_AP_settle b_AP_settle 6 (Option.none) 5 6 12 D g F [.ref (wad g 0), .ref (wad g (2 * rk + 3)), .int (nI fr), .int (nI n)] (fun v g2 u => v = none ∧ (∀ h, h < 79 → wad g2 h = wad g0 h) ∧ (∀ q, q < mm → wK g2 q = kdT (cq (1 + 3 * q))) ∧ mm ≤ wm g2 ∧ wm g2 ≤ 6 ∧ u 0 7 = nI mm ∧ (∀ q, q < mm → u (79 + q) 0 = nI q ∧ u (79 + q) 1 = nI (lfT (cq (1 + 3 * q + 1)) (cq (1 + 3 * q + 2)))) ∧ u 11 7 = nI 0 ∧ u 0 8 = nI 0 ∧ ∀ h z, h < 79 → ¬ (h = 0 ∧ (z = 7 ∨ z = 8)) → ¬ (h = 11 ∧ z = 7) → h ≠ 17 → u h z = F h z) := by
  refine CW.start rfl (Nat.le_of_ble_eq_true rfl) ?_
  intro p e s m args below meth c A ls hc hr hlocks hw hl
  have hl : lv_has ls 6 [(0, .ref (wad g 0)), (1, .ref (wad g (2 * rk + 3))), (2, .int (nI fr)), (3, .int (nI n))] := hl
  have hx := hc.1
  have hb := hc.2.1
  refine lv_aload_n hx hb d_AP_settle_0 rfl (lv_at hl 0 rfl) ?_
  refine lv_iload_n hx hb d_AP_settle_1 rfl (lv_at hl 3 rfl) ?_
  refine kRS hc hw lk_AP_260 (As := [.int (nI n)]) (rest := [.ref (wad g 0)]) (c_TX_personsOf l D g _ (n) (by omega)) ⟨Nat.le_of_ble_eq_true rfl, Nat.le_of_ble_eq_true rfl⟩ ⟨by first | exact Nat.le_of_ble_eq_true rfl | (show pq + 0 ≤ 6; omega), by first | exact Nat.le_of_ble_eq_true rfl | (show 2 * pq + 0 ≤ 12; omega)⟩ rfl hl rfl (Nat.le_of_ble_eq_true rfl) d_AP_settle_2 ?_
  rw [show (n - 1) / 3 = mm by omega]
  refine pf_AP_93 hc hw d_AP_settle_5 (fun H locs hw => ?_)
  refine lv_iconst (v := nI 0) hx hb d_AP_settle_8 (by decide) ?_
  refine lv_istore (lv' := [(4, .int (nI 0)), (0, .ref (wad g 0)), (1, .ref (wad g (2 * rk + 3))), (2, .int (nI fr)), (3, .int (nI n))]) hx hb d_AP_settle_9 hl (by decide) rfl (fun ls hl => ?_)
  have loop_11 : ∀ (n_11 : Nat) (pq : Nat) (g : wG) (F1 : wF) (H : Heap) (locs : List Loc) (ls : Array Slot), (mm - pq) < n_11 → (pq ≤ mm) → (wm g ≤ 6) → (pq ≤ wm g) → (∀ h, h < 79 → wad g h = wad g0 h) → (∀ q, q < pq → wK g q = kdT (cq (1 + 3 * q))) → (F1 0 7 = nI mm) → (∀ q, q < pq → F1 (79 + q) 0 = nI q ∧ F1 (79 + q) 1 = nI (lfT (cq (1 + 3 * q + 1)) (cq (1 + 3 * q + 2)))) → (∀ h z, h < 79 → ¬ (h = 0 ∧ z = 7) → F1 h z = F h z) → Wd D g F1 A s.heap H locs s → lv_has ls 6 [(0, .ref (wad g 0)), (1, .ref (wad g (2 * rk + 3))), (2, .int (nI fr)), (3, .int (nI n)), (4, .int (nI pq))] → W p l e (rmc 5 6 12) s m args below meth c H locs pq (2 * pq) (MQ below (Qw (fun v g2 u => v = none ∧ (∀ h, h < 79 → wad g2 h = wad g0 h) ∧ (∀ q, q < mm → wK g2 q = kdT (cq (1 + 3 * q))) ∧ mm ≤ wm g2 ∧ wm g2 ≤ 6 ∧ u 0 7 = nI mm ∧ (∀ q, q < mm → u (79 + q) 0 = nI q ∧ u (79 + q) 1 = nI (lfT (cq (1 + 3 * q + 1)) (cq (1 + 3 * q + 2)))) ∧ u 11 7 = nI 0 ∧ u 0 8 = nI 0 ∧ ∀ h z, h < 79 → ¬ (h = 0 ∧ (z = 7 ∨ z = 8)) → ¬ (h = 11 ∧ z = 7) → h ≠ 17 → u h z = F h z) (Bw D A) A) args s 6 12 A) (F0 m 11 ls []) := by
    intro n_11
    induction n_11 with
    | zero => intro pq g F1 H locs ls hm; exact absurd hm (Nat.not_lt_zero _)
    | succ n_11 ih_11 =>
      intro pq g F1 H locs ls hm_11 hpm hwm6 hpw hg1 hkk zhq7 hpp zhF1 hw hl
      refine lv_iload hx hb d_AP_settle_11 (lv_at hl 4 rfl) ?_
      refine lv_aload_n hx hb d_AP_settle_13 rfl (lv_at hl 0 rfl) ?_
      refine gf_AP_93 hc hw d_AP_settle_14 (v := .int (nI mm)) (congrArg Value.int (zhq7)) ?_
      refine q_icmp_ge (tgt := 59) hc (by omega) (by omega) d_AP_settle_17 (by decide) (fun c_1 => ?_) (fun c_1 => ?_)
      · refine lv_aload_n hx hb d_AP_settle_59 rfl (lv_at hl 0 rfl) ?_
        refine gf_AP_27 hc hw d_AP_settle_60 ?_
        refine lv_aload_n hx hb d_AP_settle_63 rfl (lv_at hl 0 rfl) ?_
        refine gf_AP_27 hc hw d_AP_settle_64 ?_
        refine gf_AP_156 hc hw d_AP_settle_67 (v := .int (nI cn)) (congrArg Value.int ((zhF1 11 7 (by decide) (by decide)).trans h11)) ?_
        refine kWV hc hw lk_AP_159 (h := 11) (As := [.int (nI cn)]) (rest := []) (c_LE_burnLast_all l D g _ cn af hcn ((zhF1 11 7 (by decide) (by decide)).trans h11) (fun k hk => (zhF1 18 k (by omega) (by omega)).trans (h18 k hk)) haf) (rc_LE hw) ⟨Nat.le_of_ble_eq_true rfl, Nat.le_of_ble_eq_true rfl⟩ ⟨by first | exact Nat.le_of_ble_eq_true rfl | (show pq + 0 ≤ 6; omega), by first | exact Nat.le_of_ble_eq_true rfl | (show 2 * pq + 0 ≤ 12; omega)⟩ rfl hl rfl (Nat.le_of_ble_eq_true rfl) d_AP_settle_70 (fun v_2 g_3 F_4 H locs zhp_5 hw => ?_)
        obtain ⟨rfl, rfl, hb7, hbF⟩ := zhp_5
        refine lv_aload_n hx hb d_AP_settle_73 rfl (lv_at hl 0 rfl) ?_
        refine lv_iconst (v := nI 0) hx hb d_AP_settle_74 (by decide) ?_
        refine pf_AP_110 hc hw d_AP_settle_75 (fun H locs hw => ?_)
        refine W.widen (k := 6) (n := 12) (by omega) (by omega) ?_
        exact W_v hc hw hr hlocks (⟨rfl, hg1, fun q hq => hkk q (by omega), by omega, hwm6, (u2_i (by decide)).trans ((hbF 0 7 (by decide) (by decide)).trans zhq7), fun q hq => ⟨(u2_h (by omega)).trans ((hbF _ _ (by omega) (by omega)).trans (hpp q (by omega)).1), (u2_h (by omega)).trans ((hbF _ _ (by omega) (by omega)).trans (hpp q (by omega)).2)⟩, (u2_h (by decide)).trans hb7, u2_same _ _ _ _, fun h z h1 h2 h3 h4 => (u2_ij2 (by omega)).trans ((hbF h z h3 h4).trans (zhF1 h z h1 (by omega)))⟩) d_AP_settle_78
      · obtain ⟨lt, kd, t, u8, hp1, hp2, hp3, hp4, hp5, hp6, hp7, hp8, hp9, hp10⟩ := pf_ok (q := pq) hg hn (by omega) hm6
        refine lv_iload_n hx hb d_AP_settle_20 rfl (lv_at hl 2 rfl) ?_
        refine lv_iload hx hb d_AP_settle_21 (lv_at hl 4 rfl) ?_
        refine kRS hc hw lk_AP_263 (As := [.int (nI pq)]) (rest := [.int (nI fr)]) (c_TX_letterOf l D g _ (pq)) ⟨Nat.le_of_ble_eq_true rfl, Nat.le_of_ble_eq_true rfl⟩ ⟨by first | exact Nat.le_of_ble_eq_true rfl | (show pq + 0 ≤ 6; omega), by first | exact Nat.le_of_ble_eq_true rfl | (show 2 * pq + 0 ≤ 12; omega)⟩ rfl hl rfl (Nat.le_of_ble_eq_true rfl) d_AP_settle_23 ?_
        refine q_iadd hc d_AP_settle_26 ?_
        refine lv_istore (lv' := [(5, .int (nI (fr + (1 + 3 * pq)))), (0, .ref (wad g 0)), (1, .ref (wad g (2 * rk + 3))), (2, .int (nI fr)), (3, .int (nI n)), (4, .int (nI pq))]) hx hb d_AP_settle_27 hl (by decide) rfl (fun ls hl => ?_)
        refine lv_aload_n hx hb d_AP_settle_29 rfl (lv_at hl 1 rfl) ?_
        refine gf_AP_20 hc hw d_AP_settle_30 ?_
        refine lv_iload hx hb d_AP_settle_33 (lv_at hl 5 rfl) ?_
        refine lv_aload_n hx hb d_AP_settle_35 rfl (lv_at hl 2 rfl) ?_
        refine lv_iload hx hb d_AP_settle_36 (lv_at hl 0 rfl) ?_
        refine r_iald hc hw (h := 2 * rk + 3) (n := 40) (i := fr + (1 + 3 * pq)) (fun f => wt_cells g (hrk) f) (by omega) (by omega) (by decide) d_AP_settle_38 (v := .int (nI lt)) (congrArg Value.int (((zhF1 _ _ (by omega) (by omega)).trans (hcq (1 + 3 * pq) (by omega))).trans hp1)) ?_
        refine lv_iload hx hb d_AP_settle_39 (lv_at hl 5 rfl) ?_
        refine lv_aload_n hx hb d_AP_settle_41 rfl (lv_at hl 2 rfl) ?_
        refine lv_iload hx hb d_AP_settle_42 (lv_at hl 0 rfl) ?_
        refine lv_iconst (v := nI 1) hx hb d_AP_settle_44 (by decide) ?_
        refine q_iadd hc d_AP_settle_45 ?_
        refine kRS hc hw lk_AP_266 (As := [.ref (wad g (2 * rk + 3)), .int (nI ((fr + (1 + 3 * pq)) + 1))]) (rest := [.int (nI pq), .int (nI lt), .int (nI pq), .ref (wad g 10)]) (c_TX_liftAt l D g _ rk hrk ((fr + (1 + 3 * pq)) + 1) t u8 (by omega) (((zhF1 _ _ (by omega) (by omega)).trans (by rw [show (fr + (1 + 3 * pq)) + 1 = fr + (1 + 3 * pq + 1) by omega]; exact hcq _ (by omega))).trans hp4) (((zhF1 _ _ (by omega) (by omega)).trans (by rw [show (fr + (1 + 3 * pq)) + 1 + 1 = fr + (1 + 3 * pq + 2) by omega]; exact hcq _ (by omega))).trans hp5)) ⟨Nat.le_of_ble_eq_true rfl, Nat.le_of_ble_eq_true rfl⟩ ⟨by first | exact Nat.le_of_ble_eq_true rfl | (show pq + 0 ≤ 6; omega), by first | exact Nat.le_of_ble_eq_true rfl | (show 2 * pq + 0 ≤ 12; omega)⟩ rfl hl rfl (Nat.le_of_ble_eq_true rfl) d_AP_settle_46 ?_
        refine r_person hc hw (pq := pq) (kd := kd) (lt := lt) (lf := 10 * t + u8) (by omega) (by omega) hp3 ⟨Nat.le_of_ble_eq_true rfl, Nat.le_of_ble_eq_true rfl⟩ (by show pq + 1 ≤ 6; omega) (by show 2 * pq + 2 ≤ 12; omega) hl d_AP_settle_49 d_AP_settle_52 (fun a9 H locs hw => ?_)
        refine lv_iinc (v := nI (pq + 1)) (lv' := [(4, .int (nI (pq + 1))), (5, .int (nI (fr + (1 + 3 * pq)))), (0, .ref (wad g 0)), (1, .ref (wad g (2 * rk + 3))), (2, .int (nI fr)), (3, .int (nI n))]) hx hb d_AP_settle_53 hl (k := 5) rfl (nI_inc1 _) (by decide) rfl (fun ls hl => ?_)
        refine lv_goto (tgt := 11) hx hb d_AP_settle_56 (by decide) ?_
        have hl : lv_has ls 6 [(4, .int (nI (pq + 1))), (5, .int (nI (fr + (1 + 3 * pq)))), (0, .ref (wad (gnew g pq a9 kd) 0)), (1, .ref (wad (gnew g pq a9 kd) (2 * rk + 3))), (2, .int (nI fr)), (3, .int (nI n))] := by rw [gnew_ad (h := 0) (by omega), gnew_ad (h := 2 * rk + 3) (by omega)]; exact hl
        exact ih_11 (pq + 1) (gnew g pq a9 kd) _ _ _ _ (by omega) (by omega) (by rw [gnew_m]; split <;> omega) (by rw [gnew_m]; split <;> omega) (fun h hh => (gnew_ad (by omega)).trans (hg1 h hh)) (fun q hq => by rcases (show q < pq ∨ q = pq by omega) with e9 | e9; (rw [gnew_k (by omega)]; exact hkk q e9); (rw [e9, gnew_km]; exact hp2.symm)) ((u2_h (by omega)).trans ((u2_h (by omega)).trans zhq7)) (fun q hq => by rcases (show q < pq ∨ q = pq by omega) with e9 | e9; (rw [u2_h (by omega), u2_h (by omega), u2_h (by omega), u2_h (by omega)]; exact hpp q e9); (rw [e9]; exact ⟨(u2_i (by decide)).trans (u2_same _ _ _ _), (u2_same _ _ _ _).trans (congrArg nI hp8.symm)⟩)) (fun h z h1 h2 => (u2_h (by omega)).trans ((u2_h (by omega)).trans (zhF1 h z h1 h2))) hw (lv_sub hl [2, 3, 4, 5, 0] rfl)
  exact loop_11 _ 0 g _ _ _ _ (Nat.lt_succ_self _) (by omega) (hm9) (by omega) (hg0) (fun q hq => absurd hq (Nat.not_lt_zero q)) (u2_same _ _ _ _) (fun q hq => absurd hq (Nat.not_lt_zero q)) (fun h z h1 h2 => u2_ij2 h2) hw (lv_sub hl [1, 2, 3, 4, 0] rfl)
set_option maxHeartbeats 4000000 in
theorem c_AP_post (l : Launch) (D : va_G) (g : wG) (F : wF) (pc : Nat) (lf : Nat → Nat) (lw : Nat) (cn : Nat) (fr to hv dy : Nat → Nat) (an af : Nat → Option Nat) (ln : Nat → Option Nat) (sz : Nat → Nat) (ce : Nat → Nat → Int32) (tr ft : Int32) (hG : GI g (pc, lf) lw (cn, fr, to, hv, dy, an, af) (ln, sz, ce)) (hC : CI g F (pc, lf) lw (cn, fr, to, hv, dy, an, af) (ln, sz, ce) tr ft) (zp0 zp1 zp2 zp3 : Int32) : CW l y_AP_post b_AP_post 8 (Option.some Jvm.ClassFile.FieldType.int) 6 6 12 D g F [.ref (wad g 0), .int zp0, .int zp1, .int zp2, .int zp3] (fun v g2 u => v = some (.int (s_post (ln, sz, ce) zp0 zp1 zp2 zp3).1) ∧ (∀ h, h < 79 → wad g2 h = wad g h) ∧ ((s_post (ln, sz, ce) zp0 zp1 zp2 zp3).2.2 = none → g = g2 ∧ CI g u (pc, lf) lw (cn, fr, to, hv, dy, an, af) (ln, sz, ce) tr (s_post (ln, sz, ce) zp0 zp1 zp2 zp3).2.1) ∧ (∀ mm, (s_post (ln, sz, ce) zp0 zp1 zp2 zp3).2.2 = some mm → (∀ q, q < mm → wK g2 q = pstK (ln, sz, ce) zp0 zp2 q) ∧ GI g2 (pstP (ln, sz, ce) zp0 zp2 mm) 0 (L0 (cn, fr, to, hv, dy, an, af)) (ln, sz, ce) ∧ CI g2 u (pstP (ln, sz, ce) zp0 zp2 mm) 0 (L0 (cn, fr, to, hv, dy, an, af)) (ln, sz, ce) tr (s_post (ln, sz, ce) zp0 zp1 zp2 zp3).2.1) ∧ ∀ h, 58 ≤ h → h ≤ 78 → u h = F h) := by
  refine CW.start rfl (Nat.le_of_ble_eq_true rfl) ?_
  intro p e s m args below meth c A ls hc hr hlocks hw hl
  have hl : lv_has ls 8 [(0, .ref (wad g 0)), (1, .int zp0), (2, .int zp1), (3, .int zp2), (4, .int zp3)] := hl
  have hx := hc.1
  have hb := hc.2.1
  obtain ⟨hpc6, hpcm, hm6, hpc0, hper⟩ : PI g pc lf := hG.1
  have hlw : lw ≤ 2 := hG.2.1
  have hI : LI pc cn fr to hv dy an af := hG.2.2.1
  have hcn := hI.1
  have hSI : SI ln sz := hG.2.2.2
  have hPC : PC F pc lf := hC.1
  have hL : LC g F cn fr to hv dy an af := hC.2.2.1
  have hSC : SC F ln sz ce := hC.2.2.2.1
  refine lv_aload_n hx hb d_AP_post_0 rfl (lv_at hl 0 rfl) ?_
  refine lv_iconst (v := nI 0) hx hb d_AP_post_1 (by decide) ?_
  refine pf_AP_59 hc hw d_AP_post_2 (fun H locs hw => ?_)
  have hC0 := CI_ft hC (nI 0)
  have hSC0 : SC _ ln sz ce := hC0.2.2.2.1
  refine lv_aload_n hx hb d_AP_post_5 rfl (lv_at hl 0 rfl) ?_
  refine lv_iload_n hx hb d_AP_post_6 rfl (lv_at hl 1 rfl) ?_
  by_cases zhs0 : rng zp0 0 3
  · obtain ⟨zj0, rfl, zj0_1, zj0_2⟩ := rng_nat zhs0 (by decide)
    have zj0_e := nI_tI (j := zj0) (by omega)
    have zj0_t := tn_nI (j := zj0) (by omega)
    unfold rng at zhs0
    have zj0_4 : zj0 < 4 := by omega
    refine kRV hc hw lk_AP_63 (As := [.int (nI zj0)]) (rest := []) (c_AP_sheetAt_y l D g _ zj0 zj0_4) (rc_AP hw) ⟨Nat.le_of_ble_eq_true rfl, Nat.le_of_ble_eq_true rfl⟩ ⟨Nat.le_of_ble_eq_true rfl, Nat.le_of_ble_eq_true rfl⟩ rfl hl rfl (Nat.le_of_ble_eq_true rfl) d_AP_post_7 ?_
    refine lv_astore (lv' := [(5, .ref (wad g (2 * zj0 + 2))), (0, .ref (wad g 0)), (1, .int (nI zj0)), (2, .int zp1), (3, .int zp2), (4, .int zp3)]) hx hb d_AP_post_10 hl (by decide) rfl (fun ls hl => ?_)
    refine lv_aload hx hb d_AP_post_12 (lv_at hl 0 rfl) ?_
    refine lv_ifnonnull (tgt := 19) hx hb d_AP_post_14 (by decide) ?_
    refine lv_iload_n hx hb d_AP_post_19 rfl (lv_at hl 3 rfl) ?_
    refine lv_iconst (v := nI 0) hx hb d_AP_post_20 (by decide) ?_
    refine lv_iconst (v := nI 2) hx hb d_AP_post_21 (by decide) ?_
    refine kRS hc hw lk_AP_67 (As := [.int zp1, .int (nI 0), .int (nI 2)]) (rest := []) (c_AP_isWithin l D g _ (zp1) (nI 0) (nI 2) 0 2 (by decide) (by decide)) ⟨Nat.le_of_ble_eq_true rfl, Nat.le_of_ble_eq_true rfl⟩ ⟨Nat.le_of_ble_eq_true rfl, Nat.le_of_ble_eq_true rfl⟩ rfl hl rfl (Nat.le_of_ble_eq_true rfl) d_AP_post_22 ?_
    refine b_if_ne (tgt := 31) hc d_AP_post_25 (by decide) (fun c_1 => ?_) (fun c_1 => ?_)
    · obtain ⟨zj1, rfl, zj1_1, zj1_2⟩ := rng_nat c_1 (by decide)
      have zj1_e := nI_tI (j := zj1) (by omega)
      have zj1_t := tn_nI (j := zj1) (by omega)
      try unfold rng at c_1
      refine lv_aload hx hb d_AP_post_31 (lv_at hl 0 rfl) ?_
      refine lv_iload_n hx hb d_AP_post_33 rfl (lv_at hl 3 rfl) ?_
      refine lv_iload_n hx hb d_AP_post_34 rfl (lv_at hl 4 rfl) ?_
      refine lv_iload hx hb d_AP_post_35 (lv_at hl 5 rfl) ?_
      refine kRV hc hw lk_AP_71 (As := [.int (nI zj1), .int zp2, .int zp3]) (rest := []) (c_RW_faultOfCells l D g _ zj0 zj0_4 (ln zj0) (hSI zj0 zj0_4).2 ((u2_h (by omega)).trans ((hSC zj0 zj0_4).1)) (sz zj0) (hSI zj0 zj0_4).1 ((u2_h (by omega)).trans ((hSC zj0 zj0_4).2.1)) (nI zj1) (zp2) (zp3)) (rc_RW hw (zj0_4)) ⟨Nat.le_of_ble_eq_true rfl, Nat.le_of_ble_eq_true rfl⟩ ⟨Nat.le_of_ble_eq_true rfl, Nat.le_of_ble_eq_true rfl⟩ rfl hl rfl (Nat.le_of_ble_eq_true rfl) d_AP_post_37 ?_
      refine lv_istore (lv' := [(6, .int (nI (flt (ln zj0) (sz zj0) (nI zj1) zp2 zp3))), (5, .ref (wad g (2 * zj0 + 2))), (0, .ref (wad g 0)), (1, .int (nI zj0)), (2, .int (nI zj1)), (3, .int zp2), (4, .int zp3)]) hx hb d_AP_post_40 hl (by decide) rfl (fun ls hl => ?_)
      refine lv_iload hx hb d_AP_post_42 (lv_at hl 0 rfl) ?_
      refine q_if_eq (tgt := 54) hc (Nat.lt_of_le_of_lt (flt_le _ _ _ _ _) (by decide)) d_AP_post_44 (by decide) (fun c_2 => ?_) (fun c_2 => ?_)
      · have hfl := c_2
        obtain ⟨hz1, hz2⟩ := flt_ok hfl
        have hsz := (hSI zj0 zj0_4).1
        obtain ⟨zj2, rfl, zj2_1, zj2_2⟩ := rng_nat (x := zp2) (a := 0) (b := (sz zj0 : Int)) hz1 (by decide)
        have zj2_e := nI_tI (j := zj2) (by omega)
        have zj2_t := tn_nI (j := zj2) (by omega)
        rw [zj2_e] at hz2
        obtain ⟨zj3, rfl, zj3_1, zj3_2⟩ := rng_nat (x := zp3) (a := 0) (b := ((sz zj0 : Int) - (zj2 : Int))) hz2 (by decide)
        have zj3_e := nI_tI (j := zj3) (by omega)
        have zj3_t := tn_nI (j := zj3) (by omega)
        refine lv_aload hx hb d_AP_post_54 (lv_at hl 1 rfl) ?_
        refine gf_AP_79 hc hw (k := zj0) (zj0_4) d_AP_post_56 ?_
        refine lv_iload_n hx hb d_AP_post_59 rfl (lv_at hl 5 rfl) ?_
        refine lv_iload hx hb d_AP_post_60 (lv_at hl 6 rfl) ?_
        refine kRS hc hw lk_AP_83 (As := [.ref (wad g (2 * zj0 + 3)), .int (nI zj2), .int (nI zj3)]) (rest := []) (c_TX_firstFault l D g _ zj0 zj0_4 zj2 zj3 (by omega)) ⟨Nat.le_of_ble_eq_true rfl, Nat.le_of_ble_eq_true rfl⟩ ⟨Nat.le_of_ble_eq_true rfl, Nat.le_of_ble_eq_true rfl⟩ rfl hl rfl (Nat.le_of_ble_eq_true rfl) d_AP_post_62 ?_
        rw [ff_c (c' := (fun a => ce zj0 (zj2 + a))) (fun b hb9 => (hSC0 zj0 zj0_4).2.2 (zj2 + b) (by omega))]
        refine lv_istore (lv' := [(7, .int (oI (ff (fun a => ce zj0 (zj2 + a)) zj3))), (6, .int (nI (flt (ln zj0) (sz zj0) (nI zj1) (nI zj2) (nI zj3)))), (5, .ref (wad g (2 * zj0 + 2))), (0, .ref (wad g 0)), (1, .int (nI zj0)), (2, .int (nI zj1)), (3, .int (nI zj2)), (4, .int (nI zj3))]) hx hb d_AP_post_65 hl (by decide) rfl (fun ls hl => ?_)
        rcases hff : ff (fun a => ce zj0 (zj2 + a)) zj3 with _ | za
        · rw [hff] at hl
          refine lv_iload hx hb d_AP_post_67 (lv_at hl 0 rfl) ?_
          refine lv_bipush (v := (-9)) hx hb d_AP_post_69 (by decide) ?_
          refine u_icmp_eq (tgt := 80) (X := (-9)) (Y := (-9)) hc (by decide) (by decide) d_AP_post_71 (by decide) (fun c_3 => ?_) (fun c_3 => ?_)
          · refine lv_aload_n hx hb d_AP_post_80 rfl (lv_at hl 3 rfl) ?_
            refine lv_aload hx hb d_AP_post_81 (lv_at hl 2 rfl) ?_
            refine gf_AP_79 hc hw (k := zj0) (zj0_4) d_AP_post_83 ?_
            refine lv_iload_n hx hb d_AP_post_86 rfl (lv_at hl 6 rfl) ?_
            refine lv_iload hx hb d_AP_post_87 (lv_at hl 7 rfl) ?_
            obtain ⟨hf1, hf2, hf3⟩ := ff_inv hff
            have hf6 := ff_six hf1 hf2
            obtain ⟨mm, hmm⟩ : ∃ mm, mm = (zj3 - 1) / 3 := ⟨_, rfl⟩
            refine kWV hc hw lk_AP_89 (h := 0) (As := [.ref (wad g (2 * zj0 + 3)), .int (nI zj2), .int (nI zj3)]) (rest := []) (c_AP_settle l D g _ g (fun _ _ => rfl) zj0 zj2 zj3 mm cn (fun a => ce zj0 (zj2 + a)) af zj0_4 (by omega) (by omega) (by omega) (fun a ha => (hSC0 zj0 zj0_4).2.2 (zj2 + a) (by omega)) hf1 hm6 hcn ((u2_h (by decide)).trans hL.1) (fun k hk => (u2_h (by decide)).trans (hL.2 k hk).2.2.2.2.2.2) (fun k hk x hx9 => ((hI.2 k hk).2.2 x hx9).1)) (rc_AP hw) ⟨Nat.le_of_ble_eq_true rfl, Nat.le_of_ble_eq_true rfl⟩ ⟨Nat.le_of_ble_eq_true rfl, Nat.le_of_ble_eq_true rfl⟩ rfl hl rfl (Nat.le_of_ble_eq_true rfl) d_AP_post_89 (fun v_4 g9 F_6 H locs zhp_7 hw => ?_)
            obtain ⟨rfl, ha9, hk9, hw9, hw6, h79, hp9, h119, h89, hF9⟩ := zhp_7
            refine lv_aload_n hx hb d_AP_post_92 rfl (lv_at hl 3 rfl) ?_
            rw [← ha9 0 (by decide)]
            refine gf_AP_93 hc hw d_AP_post_93 (v := .int (nI mm)) (congrArg Value.int h79) ?_
            refine W.widen (k := 6) (n := 12) (by omega) (by omega) ?_
            exact W_i hc hw hr hlocks (by
      rw [s_post_5 (by assumption) (by assumption) (by rw [zj0_t]; exact hfl) (by rw [(show pT (ln, sz, ce) (nI zj0) (nI zj2) = (fun a => ce zj0 (zj2 + a)) from by unfold pT; rw [zj0_t, zj2_t]), zj3_t]; exact hff), zj3_t, ← hmm]
      refine ⟨rfl, ha9, (fun q9 => by cases q9), fun m9 q9 => ?_, fun h hh1 hh2 => funext fun z => (hF9 h z (by omega) (by omega) (by omega) (by omega)).trans (u2_ij2 (by omega))⟩
      cases q9
      refine ⟨fun q hq => by unfold pstK; rw [(show pT (ln, sz, ce) (nI zj0) (nI zj2) = (fun a => ce zj0 (zj2 + a)) from by unfold pT; rw [zj0_t, zj2_t])]; exact hk9 q hq, ⟨⟨by show mm ≤ 6; omega, hw9, hw6, Or.inr (by show 2 ≤ mm; omega), fun q hq => ?_⟩, by decide, ⟨by show 0 ≤ 24; decide, fun k hk => absurd hk (Nat.not_lt_zero k)⟩, hSI⟩, ⟨⟨h79, fun q hq => ?_⟩, h89, ⟨h119, fun k hk => absurd hk (Nat.not_lt_zero k)⟩, SC_c hSC0 (fun h h1 h2 => funext fun z => hF9 h z (by omega) (by omega) (by omega) (by omega)), (hF9 57 0 (by decide) (by decide) (by decide) (by decide)).trans hC0.2.2.2.2.1, (hF9 0 9 (by decide) (by decide) (by decide) (by decide)).trans hC0.2.2.2.2.2.1, (hF9 21 0 (by decide) (by decide) (by decide) (by decide)).trans hC0.2.2.2.2.2.2.1, (hF9 22 0 (by decide) (by decide) (by decide) (by decide)).trans hC0.2.2.2.2.2.2.2⟩⟩
      · have zhq9 : q < mm := hq
        obtain ⟨lt, kd, t, u8, hp1, hp2, hp3, hp4, hp5, hp6, hp7, hp8, hp10, hp11⟩ := pf_ok (q := q) hf1 (show zj3 = 1 + 3 * mm by omega) zhq9 (by omega)
        refine ⟨by rw [hk9 q zhq9, hp2]; omega, ?_⟩
        show 1 ≤ lfT _ _ ∧ lfT _ _ ≤ 40
        rw [(show pT (ln, sz, ce) (nI zj0) (nI zj2) = (fun a => ce zj0 (zj2 + a)) from by unfold pT; rw [zj0_t, zj2_t]), hp8]
        exact ⟨hp10, hp11⟩
      · have zhq9 : q < mm := hq
        refine ⟨(hp9 q zhq9).1, (hp9 q zhq9).2.trans (congrArg nI ?_)⟩
        show _ = lfT _ _
        rw [(show pT (ln, sz, ce) (nI zj0) (nI zj2) = (fun a => ce zj0 (zj2 + a)) from by unfold pT; rw [zj0_t, zj2_t])]) d_AP_post_96
          · exact absurd c_3 (by decide)
        · rw [hff] at hl
          have hza := ff_le hff
          refine lv_iload hx hb d_AP_post_67 (lv_at hl 0 rfl) ?_
          refine lv_bipush (v := (-9)) hx hb d_AP_post_69 (by decide) ?_
          refine u_icmp_eq (tgt := 80) (X := ((za : Nat) : Int)) (Y := (-9)) hc (nI_tI (by omega)) (by decide) d_AP_post_71 (by decide) (fun c_8 => ?_) (fun c_8 => ?_)
          · exact absurd c_8 (by omega)
          · refine lv_bipush (v := (-100)) hx hb d_AP_post_74 (by decide) ?_
            refine lv_iload hx hb d_AP_post_76 (lv_at hl 0 rfl) ?_
            refine lv_isub hx hb d_AP_post_78 ?_
            refine W.widen (k := 6) (n := 12) (by omega) (by omega) ?_
            exact W_i hc hw hr hlocks (by rw [s_post_4 (a := za) (by assumption) (by assumption) (by rw [zj0_t]; exact hfl) (by rw [(show pT (ln, sz, ce) (nI zj0) (nI zj2) = (fun a => ce zj0 (zj2 + a)) from by unfold pT; rw [zj0_t, zj2_t]), zj3_t]; exact hff)]; exact ⟨rfl, fun _ _ => rfl, fun _ => ⟨rfl, hC0⟩, (fun _ q9 => (by cases q9)), fun h hh1 hh2 => funext fun z => u2_ij2 (by omega)⟩) d_AP_post_79
      · have hfl := c_2
        refine lv_aload_n hx hb d_AP_post_47 rfl (lv_at hl 2 rfl) ?_
        refine lv_iload hx hb d_AP_post_48 (lv_at hl 0 rfl) ?_
        refine kWV hc hw lk_AP_75 (h := 0) (As := [.int (nI (flt (ln zj0) (sz zj0) (nI zj1) zp2 zp3))]) (rest := []) (c_AP_faulted l D g _ (flt (ln zj0) (sz zj0) (nI zj1) zp2 zp3)) (rc_AP hw) ⟨Nat.le_of_ble_eq_true rfl, Nat.le_of_ble_eq_true rfl⟩ ⟨Nat.le_of_ble_eq_true rfl, Nat.le_of_ble_eq_true rfl⟩ rfl hl rfl (Nat.le_of_ble_eq_true rfl) d_AP_post_50 (fun v_9 g_10 F_11 H locs zhp_12 hw => ?_)
        obtain ⟨rfl, rfl, rfl⟩ := zhp_12
        refine W.widen (k := 6) (n := 12) (by omega) (by omega) ?_
        exact W_i hc hw hr hlocks (by rw [s_post_3 (f := (flt (ln zj0) (sz zj0) (nI zj1) zp2 zp3)) (by assumption) (by assumption) (by rw [zj0_t]) hfl]; exact ⟨rfl, fun _ _ => rfl, fun _ => ⟨rfl, CI_ft hC0 _⟩, (fun _ q9 => (by cases q9)), fun h hh1 hh2 => funext fun z => (u2_ij2 (by omega)).trans (u2_ij2 (by omega))⟩) d_AP_post_53
    · try unfold rng at c_1
      refine lv_bipush (v := (-2)) hx hb d_AP_post_28 (by decide) ?_
      refine W.widen (k := 6) (n := 12) (by omega) (by omega) ?_
      exact W_i hc hw hr hlocks (by rw [s_post_2 (by assumption) (by assumption)]; exact ⟨rfl, fun _ _ => rfl, fun _ => ⟨rfl, hC0⟩, (fun _ q9 => (by cases q9)), fun h hh1 hh2 => funext fun z => u2_ij2 (by omega)⟩) d_AP_post_30
  · refine kRV hc hw lk_AP_63 (As := [.int zp0]) (rest := []) (c_AP_sheetAt_n l D g _ zp0 zhs0) (rc_AP hw) ⟨Nat.le_of_ble_eq_true rfl, Nat.le_of_ble_eq_true rfl⟩ ⟨Nat.le_of_ble_eq_true rfl, Nat.le_of_ble_eq_true rfl⟩ rfl hl rfl (Nat.le_of_ble_eq_true rfl) d_AP_post_7 ?_
    unfold rng at zhs0
    refine lv_astoreN (lv' := [(5, .null), (0, .ref (wad g 0)), (1, .int zp0), (2, .int zp1), (3, .int zp2), (4, .int zp3)]) hx hb d_AP_post_10 hl (by decide) rfl (fun ls hl => ?_)
    refine lv_aloadN hx hb d_AP_post_12 (lv_at hl 0 rfl) ?_
    refine lv_ifnonnullN hx hb d_AP_post_14 ?_
    refine lv_iconst (v := (-1)) hx hb d_AP_post_17 (by decide) ?_
    refine W.widen (k := 6) (n := 12) (by omega) (by omega) ?_
    exact W_i hc hw hr hlocks (by rw [s_post_1 (by assumption)]; exact ⟨rfl, fun _ _ => rfl, fun _ => ⟨rfl, hC0⟩, (fun _ q9 => (by cases q9)), fun h hh1 hh2 => funext fun z => u2_ij2 (by omega)⟩) d_AP_post_18
