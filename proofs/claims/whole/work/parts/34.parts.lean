/-! printed by wip/gen/meths22.py: Parts -/
theorem mnf_ext {st : Nat} {f : Nat → Nat} {a : Nat} : ∀ b, a ≤ b → (∀ w, a < w → w ≤ b → st ≤ f w) → mnf st f b = mnf st f a ∧ amf st f b = amf st f a := by
  intro b
  induction b with
  | zero => intro h _; rw [show a = 0 by omega]; exact ⟨rfl, rfl⟩
  | succ b ih =>
    intro h h2
    rcases (show a = b + 1 ∨ a ≤ b by omega) with e | e
    · rw [e]; exact ⟨rfl, rfl⟩
    · obtain ⟨h3, h4⟩ := ih e (fun w a b => h2 w a (by omega))
      have h5 := h2 (b + 1) (by omega) (Nat.le_refl _)
      have h6 : ¬ f (b + 1) < mnf st f b := by have := mnf_le (st := st) (f := f) b; omega
      refine ⟨(mnf_f h6).trans h3, ?_⟩
      rw [← h4]
      show (if _ then _ else _) = _
      rw [if_neg h6]
theorem amf_t {st : Nat} {f : Nat → Nat} {n : Nat} (h : f (n + 1) < mnf st f n) : amf st f (n + 1) = n + 1 := by show (if _ then _ else _) = _; rw [if_pos h]
theorem amf_f {st : Nat} {f : Nat → Nat} {n : Nat} (h : ¬ f (n + 1) < mnf st f n) : amf st f (n + 1) = amf st f n := by show (if _ then _ else _) = _; rw [if_neg h]
theorem sp_last {pp : Nat → Nat → Nat} {n k left : Nat} (hk : k + 1 = n) (hl : 1 ≤ left) (hp : pp k left ≤ 400) : mnf 1000000000 (spf pp n k left) left = pp k left ∧ amf 1000000000 (spf pp n k left) left = left := by
  obtain ⟨x, rfl⟩ : ∃ x, left = x + 1 := ⟨left - 1, by omega⟩
  have h1 : mnf 1000000000 (spf pp n k (x + 1)) x = 1000000000 := mnf_st x (fun w a b => by
    show 1000000000 ≤ lO pp n (n - (k + 1)) (x + 1 - w) + pp k w
    rw [show n - (k + 1) = 0 by omega]
    show 1000000000 ≤ (if x + 1 - w = 0 then 0 else 1000000000) + _
    rw [if_neg (by omega)]
    omega)
  have h2 : spf pp n k (x + 1) (x + 1) = pp k (x + 1) := by
    show lO pp n (n - (k + 1)) (x + 1 - (x + 1)) + pp k (x + 1) = _
    rw [show n - (k + 1) = 0 by omega, Nat.sub_self]
    exact Nat.zero_add _
  have h3 : spf pp n k (x + 1) (x + 1) < mnf 1000000000 (spf pp n k (x + 1)) x := by rw [h1, h2]; omega
  exact ⟨(mnf_t h3).trans h2, amf_t h3⟩
theorem sp_first {pp : Nat → Nat → Nat} {n k left : Nat} (hk : k + 1 < n) (hn6 : n ≤ 6) (hl : n - k ≤ left) (h99 : left ≤ 99) (hp : ∀ k w, k < n → w ≤ 99 → pp k w ≤ 400) : spf pp n k left 1 < 1000000000 ∧ mnf 1000000000 (spf pp n k left) (0 + 1) = spf pp n k left 1 ∧ amf 1000000000 (spf pp n k left) (0 + 1) = 1 := by
  have h1 : spf pp n k left 1 < 1000000000 := by
    show lO pp n (n - (k + 1)) (left - 1) + pp k 1 < _
    have h2 := hp k 1 (by omega) (by decide)
    obtain ⟨r, hr⟩ : ∃ r, n - (k + 1) = r + 1 := ⟨n - (k + 1) - 1, by omega⟩
    rw [hr]
    have h3 := lO_yes2 (n := n) (by omega) hp r (left - 1) (by omega) (by omega)
    omega
  have h4 : spf pp n k left (0 + 1) < mnf 1000000000 (spf pp n k left) 0 := h1
  exact ⟨h1, mnf_t h4, amf_t h4⟩
theorem sp_end {pp : Nat → Nat → Nat} {n k left : Nat} (hl : n - k ≤ left) (hk : k < n) : mnf 1000000000 (spf pp n k left) left = mnf 1000000000 (spf pp n k left) (left - (n - (k + 1))) ∧ amf 1000000000 (spf pp n k left) left = amf 1000000000 (spf pp n k left) (left - (n - (k + 1))) :=
  mnf_ext left (by omega) (fun w a b => by
    show 1000000000 ≤ lO pp n (n - (k + 1)) (left - w) + pp k w
    rw [lO_no _ _ (by omega)]
    omega)
theorem sp_rest {pp : Nat → Nat → Nat} {n We : Nat} (hp : ∀ k w, k < n → w ≤ 99 → pp k w ≤ 400) (hn1 : 1 ≤ n) (hn6 : n ≤ 6) (hnW : n ≤ We) (h99 : We ≤ 99) : ∀ k, k ≤ n → spL pp n We k + k ≤ We := by
  intro k
  induction k with
  | zero => intro _; exact Nat.le_refl _
  | succ k ih =>
    intro hk
    have h1 := ih (by omega)
    obtain ⟨h2, h3, _, _⟩ := sp_x hp hn1 hn6 hnW h99 (k := k) (by omega)
    have : spL pp n We (k + 1) = spL pp n We k - spX pp n We k := rfl
    omega
set_option maxHeartbeats 4000000 in
theorem c_PA_costOf_0 (l : Launch) (D : va_G) (g : wG) (F : wF) (k w left x : Nat) (hw9 : w < 100) (h55 : F 55 w = nI x) : CR l y_PA_costOf b_PA_costOf 5 (Option.some Jvm.ClassFile.FieldType.int) 0 D g F [.ref (wad g 44), .int (nI k), .int (nI w), .int (nI left), .int (nI 0)] (.int (nI x)) := by
  refine CR.start rfl (Nat.le_of_ble_eq_true rfl) ?_
  intro p e s m args below meth c A ls hc hr hlocks hw hl
  have hl : lv_has ls 5 [(0, .ref (wad g 44)), (1, .int (nI k)), (2, .int (nI w)), (3, .int (nI left)), (4, .int (nI 0))] := hl
  have hx := hc.1
  have hb := hc.2.1
  refine lv_iload hx hb d_PA_costOf_0 (lv_at hl 4 rfl) ?_
  refine q_if_ne (tgt := 14) hc (by omega) d_PA_costOf_2 (by decide) (fun c_1 => ?_) (fun c_1 => ?_)
  · exact absurd c_1 (by first | omega | decide)
  · refine lv_aload_n hx hb d_PA_costOf_5 rfl (lv_at hl 0 rfl) ?_
    refine gf_PA_19 hc hw d_PA_costOf_6 ?_
    refine lv_iload_n hx hb d_PA_costOf_9 rfl (lv_at hl 2 rfl) ?_
    refine r_iald hc hw (h := 55) (n := 100) (i := w) (fun _ => rfl) (by omega) (by omega) (by decide) d_PA_costOf_10 (v := .int (nI x)) (congrArg Value.int (h55)) ?_
    refine lv_goto (tgt := 35) hx hb d_PA_costOf_11 (by decide) ?_
    exact R_i hc hr hlocks (rfl) d_PA_costOf_35
set_option maxHeartbeats 4000000 in
theorem c_PA_costOf_s (l : Launch) (D : va_G) (g : wG) (F : wF) (k w left bh x y : Nat) (hw9 : w < 100) (hl9 : left < 100) (hwl : w ≤ left) (hk9 : k < 6) (hbh : 1 ≤ bh) (hb9 : bh < 100) (h55 : F 55 w = nI x) (h53 : F (53 + (k + 1) % 2) (left - w) = nI y) : CR l y_PA_costOf b_PA_costOf 5 (Option.some Jvm.ClassFile.FieldType.int) 0 D g F [.ref (wad g 44), .int (nI k), .int (nI w), .int (nI left), .int (nI bh)] (.int (nI (y + x))) := by
  refine CR.start rfl (Nat.le_of_ble_eq_true rfl) ?_
  intro p e s m args below meth c A ls hc hr hlocks hw hl
  have hl : lv_has ls 5 [(0, .ref (wad g 44)), (1, .int (nI k)), (2, .int (nI w)), (3, .int (nI left)), (4, .int (nI bh))] := hl
  have hx := hc.1
  have hb := hc.2.1
  refine lv_iload hx hb d_PA_costOf_0 (lv_at hl 4 rfl) ?_
  refine q_if_ne (tgt := 14) hc (by omega) d_PA_costOf_2 (by decide) (fun c_1 => ?_) (fun c_1 => ?_)
  · refine lv_aload_n hx hb d_PA_costOf_14 rfl (lv_at hl 0 rfl) ?_
    refine gf_PA_19 hc hw d_PA_costOf_15 ?_
    refine lv_iload_n hx hb d_PA_costOf_18 rfl (lv_at hl 2 rfl) ?_
    refine r_iald hc hw (h := 55) (n := 100) (i := w) (fun _ => rfl) (by omega) (by omega) (by decide) d_PA_costOf_19 (v := .int (nI x)) (congrArg Value.int (h55)) ?_
    refine lv_aload_n hx hb d_PA_costOf_20 rfl (lv_at hl 0 rfl) ?_
    refine gf_PA_16 hc hw d_PA_costOf_21 ?_
    refine lv_iload_n hx hb d_PA_costOf_24 rfl (lv_at hl 1 rfl) ?_
    refine lv_iconst (v := nI 1) hx hb d_PA_costOf_25 (by decide) ?_
    refine q_iadd hc d_PA_costOf_26 ?_
    refine lv_iconst (v := nI 1) hx hb d_PA_costOf_27 (by decide) ?_
    refine lv_iand hx hb d_PA_costOf_28 ?_
    rw [b_par (k + 1) (by omega)]
    refine r_aldA hc hw (h := 52) (n := 2) (i := (k + 1) % 2) (t0 := 3) rfl (by omega) rfl (by omega) (by decide) d_PA_costOf_29 (v := .ref (wad g (53 + ((k + 1) % 2)))) (show va_rf (wrow g 53 2 ((k + 1) % 2)) = _ from by rw [wrow_at (by omega)]; rfl) ?_
    refine lv_iload_n hx hb d_PA_costOf_30 rfl (lv_at hl 3 rfl) ?_
    refine lv_iload_n hx hb d_PA_costOf_31 rfl (lv_at hl 2 rfl) ?_
    refine q_isub hc (by omega) d_PA_costOf_32 ?_
    refine r_iald hc hw (h := 53 + ((k + 1) % 2)) (n := 100) (i := left - w) (fun f => wt_paL g (by omega) f) (by omega) (by omega) (by decide) d_PA_costOf_33 (v := .int (nI y)) (congrArg Value.int h53) ?_
    refine q_iadd hc d_PA_costOf_34 ?_
    exact R_i hc hr hlocks (by rw [Nat.add_comm y x]) d_PA_costOf_35
  · exact absurd c_1 (by omega)
set_option maxHeartbeats 4000000 in
theorem c_PA_choose_0 (l : Launch) (D : va_G) (g : wG) (F : wF) (pp : Nat → Nat → Nat) (n We k left : Nat) (hn6 : n ≤ 6) (hW : We ≤ 99) (hk : k < n) (hl1 : n - k ≤ left) (hl2 : left ≤ We) (hpp : ∀ k w, k < n → w ≤ 99 → pp k w ≤ 400) (h55 : ∀ w, 1 ≤ w → w ≤ We → F 55 w = nI (pp k w)) (hro : k + 1 < n → ∀ x, n - (k + 1) ≤ x → x < left → F (53 + (k + 1) % 2) x = nI (lO pp n (n - (k + 1)) x)) (hlast : k + 1 = n) : CW l y_PA_choose b_PA_choose 8 (Option.none) 1 0 0 D g F [.ref (wad g 44), .int (nI k), .int (nI left), .int (nI 0)] (fun v g2 u => v = none ∧ g = g2 ∧ u (46 + k) left = nI (amf 1000000000 (spf pp n k left) left) ∧ u (53 + k % 2) left = nI (lO pp n (n - k) left) ∧ ∀ h z, ¬ ((h = 46 + k ∨ h = 53 + k % 2) ∧ z = left) → u h z = F h z) := by
  refine CW.start rfl (Nat.le_of_ble_eq_true rfl) ?_
  intro p e s m args below meth c A ls hc hr hlocks hw hl
  have hl : lv_has ls 8 [(0, .ref (wad g 44)), (1, .int (nI k)), (2, .int (nI left)), (3, .int (nI 0))] := hl
  have hx := hc.1
  have hb := hc.2.1
  obtain ⟨zhs1, zhs2⟩ := sp_last (pp := pp) hlast (show 1 ≤ left by omega) (hpp k left hk (by omega))
  refine lv_iload_n hx hb d_PA_choose_0 rfl (lv_at hl 3 rfl) ?_
  refine q_if_ne (tgt := 8) hc (by omega) d_PA_choose_1 (by decide) (fun c_1 => ?_) (fun c_1 => ?_)
  · exact absurd c_1 (by first | omega | decide)
  · refine lv_iload_n hx hb d_PA_choose_4 rfl (lv_at hl 2 rfl) ?_
    refine lv_goto (tgt := 9) hx hb d_PA_choose_5 (by decide) ?_
    refine lv_istore (lv' := [(4, .int (nI left)), (0, .ref (wad g 44)), (1, .int (nI k)), (2, .int (nI left)), (3, .int (nI 0))]) hx hb d_PA_choose_9 hl (by decide) rfl (fun ls hl => ?_)
    refine lv_aload_n hx hb d_PA_choose_11 rfl (lv_at hl 1 rfl) ?_
    refine lv_iload_n hx hb d_PA_choose_12 rfl (lv_at hl 2 rfl) ?_
    refine lv_iload hx hb d_PA_choose_13 (lv_at hl 0 rfl) ?_
    refine lv_iload_n hx hb d_PA_choose_15 rfl (lv_at hl 3 rfl) ?_
    refine lv_iload_n hx hb d_PA_choose_16 rfl (lv_at hl 4 rfl) ?_
    refine kRV hc hw lk_PA_44 (As := [.int (nI k), .int (nI left), .int (nI left), .int (nI 0)]) (rest := []) (c_PA_costOf_0 l D g _ k left left (pp k left) (by omega) (h55 left (by omega) (by omega))) (rc_PA hw) ⟨Nat.le_of_ble_eq_true rfl, Nat.le_of_ble_eq_true rfl⟩ ⟨Nat.le_refl _, Nat.le_refl _⟩ rfl hl rfl (Nat.le_of_ble_eq_true rfl) d_PA_choose_17 ?_
    refine lv_istore (lv' := [(5, .int (nI (pp k left))), (4, .int (nI left)), (0, .ref (wad g 44)), (1, .int (nI k)), (2, .int (nI left)), (3, .int (nI 0))]) hx hb d_PA_choose_20 hl (by decide) rfl (fun ls hl => ?_)
    refine lv_iload hx hb d_PA_choose_22 (lv_at hl 1 rfl) ?_
    refine lv_iconst (v := nI 1) hx hb d_PA_choose_24 (by decide) ?_
    refine q_iadd hc d_PA_choose_25 ?_
    refine lv_istore (lv' := [(6, .int (nI (left + 1))), (5, .int (nI (pp k left))), (4, .int (nI left)), (0, .ref (wad g 44)), (1, .int (nI k)), (2, .int (nI left)), (3, .int (nI 0))]) hx hb d_PA_choose_26 hl (by decide) rfl (fun ls hl => ?_)
    refine lv_iload hx hb d_PA_choose_28 (lv_at hl 0 rfl) ?_
    refine lv_iload_n hx hb d_PA_choose_30 rfl (lv_at hl 5 rfl) ?_
    refine lv_iload_n hx hb d_PA_choose_31 rfl (lv_at hl 6 rfl) ?_
    refine q_isub hc (by omega) d_PA_choose_32 ?_
    refine q_icmp_gt (tgt := 68) hc (by omega) (by omega) d_PA_choose_33 (by decide) (fun c_2 => ?_) (fun c_2 => ?_)
    · refine lv_aload_n hx hb d_PA_choose_68 rfl (lv_at hl 3 rfl) ?_
      refine gf_PA_11 hc hw d_PA_choose_69 ?_
      refine lv_iload_n hx hb d_PA_choose_72 rfl (lv_at hl 4 rfl) ?_
      refine r_aldA hc hw (h := 45) (n := 6) (i := k) (t0 := 3) rfl (by omega) rfl (by omega) (by decide) d_PA_choose_73 (v := .ref (wad g (46 + k))) (show va_rf (wrow g 46 6 k) = _ from by rw [wrow_at (by omega)]; rfl) ?_
      refine lv_iload_n hx hb d_PA_choose_74 rfl (lv_at hl 5 rfl) ?_
      refine lv_iload hx hb d_PA_choose_75 (lv_at hl 2 rfl) ?_
      refine r_iast hc hw (h := 46 + k) (n := 100) (i := left) (fun f => wt_paC g (by omega) f) (by omega) (by omega) (by decide) d_PA_choose_77 (fun H locs hw => ?_)
      refine lv_aload_n hx hb d_PA_choose_78 rfl (lv_at hl 3 rfl) ?_
      refine gf_PA_16 hc hw d_PA_choose_79 ?_
      refine lv_iload_n hx hb d_PA_choose_82 rfl (lv_at hl 4 rfl) ?_
      refine lv_iconst (v := nI 1) hx hb d_PA_choose_83 (by decide) ?_
      refine lv_iand hx hb d_PA_choose_84 ?_
      rw [b_par (k) (by omega)]
      refine r_aldA hc hw (h := 52) (n := 2) (i := (k) % 2) (t0 := 3) rfl (by omega) rfl (by omega) (by decide) d_PA_choose_85 (v := .ref (wad g (53 + ((k) % 2)))) (show va_rf (wrow g 53 2 ((k) % 2)) = _ from by rw [wrow_at (by omega)]; rfl) ?_
      refine lv_iload_n hx hb d_PA_choose_86 rfl (lv_at hl 5 rfl) ?_
      refine lv_iload hx hb d_PA_choose_87 (lv_at hl 1 rfl) ?_
      refine r_iast hc hw (h := 53 + ((k) % 2)) (n := 100) (i := left) (fun f => wt_paL g (by omega) f) (by omega) (by omega) (by decide) d_PA_choose_89 (fun H locs hw => ?_)
      exact W_v hc hw hr hlocks (⟨rfl, rfl, (u2_h (by omega)).trans ((u2_same _ _ _ _).trans (congrArg nI zhs2.symm)), (u2_same _ _ _ _).trans (congrArg nI (zhs1.symm.trans (lO_f hk).symm)), fun h z hh => by rw [u2_ij2 (by omega), u2_ij2 (by omega)]⟩) d_PA_choose_90
    · exact absurd c_2 (by omega)
set_option maxHeartbeats 4000000 in
theorem c_PA_choose_s (l : Launch) (D : va_G) (g : wG) (F : wF) (pp : Nat → Nat → Nat) (n We k left : Nat) (hn6 : n ≤ 6) (hW : We ≤ 99) (hk : k < n) (hl1 : n - k ≤ left) (hl2 : left ≤ We) (hpp : ∀ k w, k < n → w ≤ 99 → pp k w ≤ 400) (h55 : ∀ w, 1 ≤ w → w ≤ We → F 55 w = nI (pp k w)) (hro : k + 1 < n → ∀ x, n - (k + 1) ≤ x → x < left → F (53 + (k + 1) % 2) x = nI (lO pp n (n - (k + 1)) x)) (hlast : k + 1 < n) : CW l y_PA_choose b_PA_choose 8 (Option.none) 1 0 0 D g F [.ref (wad g 44), .int (nI k), .int (nI left), .int (nI (n - (k + 1)))] (fun v g2 u => v = none ∧ g = g2 ∧ u (46 + k) left = nI (amf 1000000000 (spf pp n k left) left) ∧ u (53 + k % 2) left = nI (lO pp n (n - k) left) ∧ ∀ h z, ¬ ((h = 46 + k ∨ h = 53 + k % 2) ∧ z = left) → u h z = F h z) := by
  refine CW.start rfl (Nat.le_of_ble_eq_true rfl) ?_
  intro p e s m args below meth c A ls hc hr hlocks hw hl
  have hl : lv_has ls 8 [(0, .ref (wad g 44)), (1, .int (nI k)), (2, .int (nI left)), (3, .int (nI (n - (k + 1))))] := hl
  have hx := hc.1
  have hb := hc.2.1
  obtain ⟨zhs1, zhs2, zhs3⟩ := sp_first hlast hn6 hl1 (show left ≤ 99 by omega) hpp
  obtain ⟨zhs4, zhs5⟩ := sp_end (pp := pp) hl1 hk
  refine lv_iload_n hx hb d_PA_choose_0 rfl (lv_at hl 3 rfl) ?_
  refine q_if_ne (tgt := 8) hc (by omega) d_PA_choose_1 (by decide) (fun c_1 => ?_) (fun c_1 => ?_)
  · refine lv_iconst (v := nI 1) hx hb d_PA_choose_8 (by decide) ?_
    refine lv_istore (lv' := [(4, .int (nI 1)), (0, .ref (wad g 44)), (1, .int (nI k)), (2, .int (nI left)), (3, .int (nI (n - (k + 1))))]) hx hb d_PA_choose_9 hl (by decide) rfl (fun ls hl => ?_)
    refine lv_aload_n hx hb d_PA_choose_11 rfl (lv_at hl 1 rfl) ?_
    refine lv_iload_n hx hb d_PA_choose_12 rfl (lv_at hl 2 rfl) ?_
    refine lv_iload hx hb d_PA_choose_13 (lv_at hl 0 rfl) ?_
    refine lv_iload_n hx hb d_PA_choose_15 rfl (lv_at hl 3 rfl) ?_
    refine lv_iload_n hx hb d_PA_choose_16 rfl (lv_at hl 4 rfl) ?_
    refine kRV hc hw lk_PA_44 (As := [.int (nI k), .int (nI 1), .int (nI left), .int (nI (n - (k + 1)))]) (rest := []) (c_PA_costOf_s l D g _ k (1) left (n - (k + 1)) (pp k (1)) (lO pp n (n - (k + 1)) (left - (1))) (by omega) (by omega) (by omega) (by omega) (by omega) (by omega) (h55 (1) (by omega) (by omega)) (hro (by omega) (left - (1)) (by omega) (by omega))) (rc_PA hw) ⟨Nat.le_of_ble_eq_true rfl, Nat.le_of_ble_eq_true rfl⟩ ⟨Nat.le_refl _, Nat.le_refl _⟩ rfl hl rfl (Nat.le_of_ble_eq_true rfl) d_PA_choose_17 ?_
    refine lv_istore (lv' := [(5, .int (nI (spf pp n k left 1))), (4, .int (nI 1)), (0, .ref (wad g 44)), (1, .int (nI k)), (2, .int (nI left)), (3, .int (nI (n - (k + 1))))]) hx hb d_PA_choose_20 hl (by decide) rfl (fun ls hl => ?_)
    refine lv_iload hx hb d_PA_choose_22 (lv_at hl 1 rfl) ?_
    refine lv_iconst (v := nI 1) hx hb d_PA_choose_24 (by decide) ?_
    refine q_iadd hc d_PA_choose_25 ?_
    refine lv_istore (lv' := [(6, .int (nI 2)), (5, .int (nI (spf pp n k left 1))), (4, .int (nI 1)), (0, .ref (wad g 44)), (1, .int (nI k)), (2, .int (nI left)), (3, .int (nI (n - (k + 1))))]) hx hb d_PA_choose_26 hl (by decide) rfl (fun ls hl => ?_)
    have loop_28 : ∀ (n_28 : Nat) (i : Nat)  (H : Heap) (locs : List Loc) (ls : Array Slot), (left - i) < n_28 → (i + 1 ≤ left - (n - (k + 1))) → Wd D g F A s.heap H locs s → lv_has ls 8 [(0, .ref (wad g 44)), (1, .int (nI k)), (2, .int (nI left)), (3, .int (nI (n - (k + 1)))), (4, .int (nI (amf 1000000000 (spf pp n k left) (i + 1)))), (5, .int (nI (mnf 1000000000 (spf pp n k left) (i + 1)))), (6, .int (nI (i + 2)))] → W p l e (rmc 1 0 0) s m args below meth c H locs 0 0 (MQ below (Qw (fun v g2 u => v = none ∧ g = g2 ∧ u (46 + k) left = nI (amf 1000000000 (spf pp n k left) left) ∧ u (53 + k % 2) left = nI (lO pp n (n - k) left) ∧ ∀ h z, ¬ ((h = 46 + k ∨ h = 53 + k % 2) ∧ z = left) → u h z = F h z) (Bw D A) A) args s 0 0 A) (F0 m 28 ls []) := by
      intro n_28
      induction n_28 with
      | zero => intro i  H locs ls hm; exact absurd hm (Nat.not_lt_zero _)
      | succ n_28 ih_28 =>
        intro i  H locs ls hm_28 hi hw hl
        have hml := mnf_le (st := 1000000000) (f := (spf pp n k left)) (i + 1)
        refine lv_iload hx hb d_PA_choose_28 (lv_at hl 6 rfl) ?_
        refine lv_iload_n hx hb d_PA_choose_30 rfl (lv_at hl 2 rfl) ?_
        refine lv_iload_n hx hb d_PA_choose_31 rfl (lv_at hl 3 rfl) ?_
        refine q_isub hc (by omega) d_PA_choose_32 ?_
        refine q_icmp_gt (tgt := 68) hc (by omega) (by omega) d_PA_choose_33 (by decide) (fun c_2 => ?_) (fun c_2 => ?_)
        · have hie : i + 1 = left - (n - (k + 1)) := by omega
          rw [← hie] at zhs4 zhs5
          refine lv_aload_n hx hb d_PA_choose_68 rfl (lv_at hl 0 rfl) ?_
          refine gf_PA_11 hc hw d_PA_choose_69 ?_
          refine lv_iload_n hx hb d_PA_choose_72 rfl (lv_at hl 1 rfl) ?_
          refine r_aldA hc hw (h := 45) (n := 6) (i := k) (t0 := 3) rfl (by omega) rfl (by omega) (by decide) d_PA_choose_73 (v := .ref (wad g (46 + k))) (show va_rf (wrow g 46 6 k) = _ from by rw [wrow_at (by omega)]; rfl) ?_
          refine lv_iload_n hx hb d_PA_choose_74 rfl (lv_at hl 2 rfl) ?_
          refine lv_iload hx hb d_PA_choose_75 (lv_at hl 4 rfl) ?_
          refine r_iast hc hw (h := 46 + k) (n := 100) (i := left) (fun f => wt_paC g (by omega) f) (by omega) (by omega) (by decide) d_PA_choose_77 (fun H locs hw => ?_)
          refine lv_aload_n hx hb d_PA_choose_78 rfl (lv_at hl 0 rfl) ?_
          refine gf_PA_16 hc hw d_PA_choose_79 ?_
          refine lv_iload_n hx hb d_PA_choose_82 rfl (lv_at hl 1 rfl) ?_
          refine lv_iconst (v := nI 1) hx hb d_PA_choose_83 (by decide) ?_
          refine lv_iand hx hb d_PA_choose_84 ?_
          rw [b_par (k) (by omega)]
          refine r_aldA hc hw (h := 52) (n := 2) (i := (k) % 2) (t0 := 3) rfl (by omega) rfl (by omega) (by decide) d_PA_choose_85 (v := .ref (wad g (53 + ((k) % 2)))) (show va_rf (wrow g 53 2 ((k) % 2)) = _ from by rw [wrow_at (by omega)]; rfl) ?_
          refine lv_iload_n hx hb d_PA_choose_86 rfl (lv_at hl 2 rfl) ?_
          refine lv_iload hx hb d_PA_choose_87 (lv_at hl 5 rfl) ?_
          refine r_iast hc hw (h := 53 + ((k) % 2)) (n := 100) (i := left) (fun f => wt_paL g (by omega) f) (by omega) (by omega) (by decide) d_PA_choose_89 (fun H locs hw => ?_)
          exact W_v hc hw hr hlocks (⟨rfl, rfl, (u2_h (by omega)).trans ((u2_same _ _ _ _).trans (congrArg nI zhs5.symm)), (u2_same _ _ _ _).trans (congrArg nI (zhs4.symm.trans (lO_f hk).symm)), fun h z hh => by rw [u2_ij2 (by omega), u2_ij2 (by omega)]⟩) d_PA_choose_90
        · refine lv_aload_n hx hb d_PA_choose_36 rfl (lv_at hl 0 rfl) ?_
          refine lv_iload_n hx hb d_PA_choose_37 rfl (lv_at hl 1 rfl) ?_
          refine lv_iload hx hb d_PA_choose_38 (lv_at hl 6 rfl) ?_
          refine lv_iload_n hx hb d_PA_choose_40 rfl (lv_at hl 2 rfl) ?_
          refine lv_iload_n hx hb d_PA_choose_41 rfl (lv_at hl 3 rfl) ?_
          refine kRV hc hw lk_PA_44 (As := [.int (nI k), .int (nI (i + 2)), .int (nI left), .int (nI (n - (k + 1)))]) (rest := []) (c_PA_costOf_s l D g _ k (i + 2) left (n - (k + 1)) (pp k (i + 2)) (lO pp n (n - (k + 1)) (left - (i + 2))) (by omega) (by omega) (by omega) (by omega) (by omega) (by omega) (h55 (i + 2) (by omega) (by omega)) (hro (by omega) (left - (i + 2)) (by omega) (by omega))) (rc_PA hw) ⟨Nat.le_of_ble_eq_true rfl, Nat.le_of_ble_eq_true rfl⟩ ⟨Nat.le_refl _, Nat.le_refl _⟩ rfl hl rfl (Nat.le_of_ble_eq_true rfl) d_PA_choose_42 ?_
          have hf9 : (spf pp n k left) (i + 2) ≤ 1000000400 := by have h1 := lO_le (pp := pp) (n := n) (n - (k + 1)) (left - (i + 2)); have h2 := hpp k (i + 2) hk (by omega); show lO pp n (n - (k + 1)) (left - (i + 2)) + pp k (i + 2) ≤ _; omega
          refine lv_istore (lv' := [(7, .int (nI (spf pp n k left (i + 2)))), (0, .ref (wad g 44)), (1, .int (nI k)), (2, .int (nI left)), (3, .int (nI (n - (k + 1)))), (4, .int (nI (amf 1000000000 (spf pp n k left) (i + 1)))), (5, .int (nI (mnf 1000000000 (spf pp n k left) (i + 1)))), (6, .int (nI (i + 2)))]) hx hb d_PA_choose_45 hl (by decide) rfl (fun ls hl => ?_)
          refine lv_iload hx hb d_PA_choose_47 (lv_at hl 0 rfl) ?_
          refine lv_iload hx hb d_PA_choose_49 (lv_at hl 6 rfl) ?_
          refine q_icmp_ge (tgt := 62) hc (by omega) (by omega) d_PA_choose_51 (by decide) (fun c_3 => ?_) (fun c_3 => ?_)
          · have zhno : ¬ (spf pp n k left) (i + 1 + 1) < mnf 1000000000 (spf pp n k left) (i + 1) := by show ¬ (spf pp n k left) (i + 2) < _; omega
            refine lv_iinc (v := nI ((i + 2) + 1)) (lv' := [(6, .int (nI ((i + 2) + 1))), (7, .int (nI (spf pp n k left (i + 2)))), (0, .ref (wad g 44)), (1, .int (nI k)), (2, .int (nI left)), (3, .int (nI (n - (k + 1)))), (4, .int (nI (amf 1000000000 (spf pp n k left) (i + 1)))), (5, .int (nI (mnf 1000000000 (spf pp n k left) (i + 1))))]) hx hb d_PA_choose_62 hl (k := 7) rfl (nI_inc1 _) (by decide) rfl (fun ls hl => ?_)
            refine lv_goto (tgt := 28) hx hb d_PA_choose_65 (by decide) ?_
            have hl : lv_has ls 8 [(6, .int (nI ((i + 2) + 1))), (7, .int (nI (spf pp n k left (i + 2)))), (0, .ref (wad g 44)), (1, .int (nI k)), (2, .int (nI left)), (3, .int (nI (n - (k + 1)))), (4, .int (nI (amf 1000000000 (spf pp n k left) (i + 1 + 1)))), (5, .int (nI (mnf 1000000000 (spf pp n k left) (i + 1))))] := by rw [show amf 1000000000 (spf pp n k left) (i + 1 + 1) = amf 1000000000 (spf pp n k left) (i + 1) from by first | exact amf_t hye | exact amf_f zhno]; exact hl
            have hl : lv_has ls 8 [(6, .int (nI ((i + 2) + 1))), (7, .int (nI (spf pp n k left (i + 2)))), (0, .ref (wad g 44)), (1, .int (nI k)), (2, .int (nI left)), (3, .int (nI (n - (k + 1)))), (4, .int (nI (amf 1000000000 (spf pp n k left) (i + 1 + 1)))), (5, .int (nI (mnf 1000000000 (spf pp n k left) (i + 1 + 1))))] := by rw [show mnf 1000000000 (spf pp n k left) (i + 1 + 1) = mnf 1000000000 (spf pp n k left) (i + 1) from by first | exact mnf_t hye | exact mnf_f zhno]; exact hl
            have hl : lv_has ls 8 [(6, .int (nI (i + 1 + 2))), (7, .int (nI (spf pp n k left (i + 2)))), (0, .ref (wad g 44)), (1, .int (nI k)), (2, .int (nI left)), (3, .int (nI (n - (k + 1)))), (4, .int (nI (amf 1000000000 (spf pp n k left) (i + 1 + 1)))), (5, .int (nI (mnf 1000000000 (spf pp n k left) (i + 1 + 1))))] := by rw [show i + 1 + 2 = (i + 2) + 1 from by omega]; exact hl
            exact ih_28 (i + 1) _ _ _ (by omega) (by omega) hw (lv_sub hl [2, 3, 4, 5, 6, 7, 0] rfl)
          · have hye : (spf pp n k left) (i + 1 + 1) < mnf 1000000000 (spf pp n k left) (i + 1) := c_3
            refine lv_iload hx hb d_PA_choose_54 (lv_at hl 0 rfl) ?_
            refine lv_istore (lv' := [(5, .int (nI (spf pp n k left (i + 2)))), (7, .int (nI (spf pp n k left (i + 2)))), (0, .ref (wad g 44)), (1, .int (nI k)), (2, .int (nI left)), (3, .int (nI (n - (k + 1)))), (4, .int (nI (amf 1000000000 (spf pp n k left) (i + 1)))), (6, .int (nI (i + 2)))]) hx hb d_PA_choose_56 hl (by decide) rfl (fun ls hl => ?_)
            refine lv_iload hx hb d_PA_choose_58 (lv_at hl 7 rfl) ?_
            refine lv_istore (lv' := [(4, .int (nI (i + 2))), (5, .int (nI (spf pp n k left (i + 2)))), (7, .int (nI (spf pp n k left (i + 2)))), (0, .ref (wad g 44)), (1, .int (nI k)), (2, .int (nI left)), (3, .int (nI (n - (k + 1)))), (6, .int (nI (i + 2)))]) hx hb d_PA_choose_60 hl (by decide) rfl (fun ls hl => ?_)
            refine lv_iinc (v := nI ((i + 2) + 1)) (lv' := [(6, .int (nI ((i + 2) + 1))), (4, .int (nI (i + 2))), (5, .int (nI (spf pp n k left (i + 2)))), (7, .int (nI (spf pp n k left (i + 2)))), (0, .ref (wad g 44)), (1, .int (nI k)), (2, .int (nI left)), (3, .int (nI (n - (k + 1))))]) hx hb d_PA_choose_62 hl (k := 7) rfl (nI_inc1 _) (by decide) rfl (fun ls hl => ?_)
            refine lv_goto (tgt := 28) hx hb d_PA_choose_65 (by decide) ?_
            have hl : lv_has ls 8 [(6, .int (nI ((i + 2) + 1))), (4, .int (nI (amf 1000000000 (spf pp n k left) (i + 1 + 1)))), (5, .int (nI (spf pp n k left (i + 2)))), (7, .int (nI (spf pp n k left (i + 2)))), (0, .ref (wad g 44)), (1, .int (nI k)), (2, .int (nI left)), (3, .int (nI (n - (k + 1))))] := by rw [show amf 1000000000 (spf pp n k left) (i + 1 + 1) = i + 2 from by first | exact amf_t hye | exact amf_f zhno]; exact hl
            have hl : lv_has ls 8 [(6, .int (nI ((i + 2) + 1))), (4, .int (nI (amf 1000000000 (spf pp n k left) (i + 1 + 1)))), (5, .int (nI (mnf 1000000000 (spf pp n k left) (i + 1 + 1)))), (7, .int (nI (spf pp n k left (i + 2)))), (0, .ref (wad g 44)), (1, .int (nI k)), (2, .int (nI left)), (3, .int (nI (n - (k + 1))))] := by rw [show mnf 1000000000 (spf pp n k left) (i + 1 + 1) = spf pp n k left (i + 2) from by first | exact mnf_t hye | exact mnf_f zhno]; exact hl
            have hl : lv_has ls 8 [(6, .int (nI (i + 1 + 2))), (4, .int (nI (amf 1000000000 (spf pp n k left) (i + 1 + 1)))), (5, .int (nI (mnf 1000000000 (spf pp n k left) (i + 1 + 1)))), (7, .int (nI (spf pp n k left (i + 2)))), (0, .ref (wad g 44)), (1, .int (nI k)), (2, .int (nI left)), (3, .int (nI (n - (k + 1))))] := by rw [show i + 1 + 2 = (i + 2) + 1 from by omega]; exact hl
            exact ih_28 (i + 1) _ _ _ (by omega) (by omega) hw (lv_sub hl [4, 5, 6, 7, 1, 2, 0] rfl)
    have hl : lv_has ls 8 [(6, .int (nI 2)), (5, .int (nI (spf pp n k left 1))), (4, .int (nI (amf 1000000000 (spf pp n k left) (0 + 1)))), (0, .ref (wad g 44)), (1, .int (nI k)), (2, .int (nI left)), (3, .int (nI (n - (k + 1))))] := by rw [show amf 1000000000 (spf pp n k left) (0 + 1) = 1 from by exact zhs3]; exact hl
    have hl : lv_has ls 8 [(6, .int (nI 2)), (5, .int (nI (mnf 1000000000 (spf pp n k left) (0 + 1)))), (4, .int (nI (amf 1000000000 (spf pp n k left) (0 + 1)))), (0, .ref (wad g 44)), (1, .int (nI k)), (2, .int (nI left)), (3, .int (nI (n - (k + 1))))] := by rw [show mnf 1000000000 (spf pp n k left) (0 + 1) = spf pp n k left 1 from by exact zhs2]; exact hl
    have hl : lv_has ls 8 [(6, .int (nI (0 + 2))), (5, .int (nI (mnf 1000000000 (spf pp n k left) (0 + 1)))), (4, .int (nI (amf 1000000000 (spf pp n k left) (0 + 1)))), (0, .ref (wad g 44)), (1, .int (nI k)), (2, .int (nI left)), (3, .int (nI (n - (k + 1))))] := by rw [show 0 + 2 = 2 from by rfl]; exact hl
    exact loop_28 _ 0 _ _ _ (Nat.lt_succ_self _) (by omega) hw (lv_sub hl [3, 4, 5, 6, 2, 1, 0] rfl)
  · exact absurd c_1 (by omega)
theorem c_PA_choose (l : Launch) (D : va_G) (g : wG) (F : wF) (pp : Nat → Nat → Nat) (n We k left : Nat) (hn6 : n ≤ 6) (hW : We ≤ 99) (hk : k < n) (hl1 : n - k ≤ left) (hl2 : left ≤ We) (hpp : ∀ k w, k < n → w ≤ 99 → pp k w ≤ 400) (h55 : ∀ w, 1 ≤ w → w ≤ We → F 55 w = nI (pp k w)) (hro : k + 1 < n → ∀ x, n - (k + 1) ≤ x → x < left → F (53 + (k + 1) % 2) x = nI (lO pp n (n - (k + 1)) x)) : CW l y_PA_choose b_PA_choose 8 (Option.none) 1 0 0 D g F [.ref (wad g 44), .int (nI k), .int (nI left), .int (nI (n - (k + 1)))] (fun v g2 u => v = none ∧ g = g2 ∧ u (46 + k) left = nI (amf 1000000000 (spf pp n k left) left) ∧ u (53 + k % 2) left = nI (lO pp n (n - k) left) ∧ ∀ h z, ¬ ((h = 46 + k ∨ h = 53 + k % 2) ∧ z = left) → u h z = F h z) := by
  rcases (show k + 1 = n ∨ k + 1 < n by omega) with h | h
  · have h0 := c_PA_choose_0 l D g F pp n We k left hn6 hW hk hl1 hl2 hpp h55 hro h
    rw [show n - (k + 1) = 0 by omega]
    exact h0
  · exact c_PA_choose_s l D g F pp n We k left hn6 hW hk hl1 hl2 hpp h55 hro h
set_option maxHeartbeats 4000000 in
theorem c_PA_part (l : Launch) (D : va_G) (g : wG) (F : wF) (j We rk fr n lw : Nat) (an : Nat → Nat) (hj : j < wm g) (h2 : wK g j ≤ 2) (hrk : rk < 4) (hW : We ≤ 99) (hn1 : 1 ≤ n) (hn6 : n ≤ 6) (hnW : n ≤ We) (hlw : lw ≤ 2) (hfr : fr + n ≤ 40) (han : ∀ k, k < n → an k ≤ 200 ∧ F (2 * rk + 3) (fr + k) = nI (an k)) : CW l y_PA_part b_PA_part 11 (Option.none) 2 0 0 D g F [.ref (wad g 44), .ref (wad g (79 + j)), .int (nI We), .ref (wad g (2 * rk + 3)), .int (nI fr), .int (nI n), .int (nI lw)] (fun v g2 u => v = none ∧ g = g2 ∧ u 44 4 = nI (lO (spp (wK g) lw j an) n n We) ∧ (∀ k, k < n → u 56 k = nI (spX (spp (wK g) lw j an) n We k)) ∧ ∀ h z, (h < 44 ∨ 56 < h) → u h z = F h z) := by
  refine CW.start rfl (Nat.le_of_ble_eq_true rfl) ?_
  intro p e s m args below meth c A ls hc hr hlocks hw hl
  have hl : lv_has ls 11 [(0, .ref (wad g 44)), (1, .ref (wad g (79 + j))), (2, .int (nI We)), (3, .ref (wad g (2 * rk + 3))), (4, .int (nI fr)), (5, .int (nI n)), (6, .int (nI lw))] := hl
  have hx := hc.1
  have hb := hc.2.1
  have hpp : ∀ k w, k < n → w ≤ 99 → (spp (wK g) lw j an) k w ≤ 400 := spp_le (fun k hk => (han k hk).1)
  refine lv_iload hx hb d_PA_part_0 (lv_at hl 5 rfl) ?_
  refine lv_iconst (v := nI 1) hx hb d_PA_part_2 (by decide) ?_
  refine q_isub hc (by omega) d_PA_part_3 ?_
  refine lv_istore (lv' := [(7, .int (nI (n - 1))), (0, .ref (wad g 44)), (1, .ref (wad g (79 + j))), (2, .int (nI We)), (3, .ref (wad g (2 * rk + 3))), (4, .int (nI fr)), (5, .int (nI n)), (6, .int (nI lw))]) hx hb d_PA_part_4 hl (by decide) rfl (fun ls hl => ?_)
  have loop_6 : ∀ (n_6 : Nat) (r : Nat) (F1 : wF) (H : Heap) (locs : List Loc) (ls : Array Slot), (r) < n_6 → (r ≤ n) → (∀ k, r ≤ k → k < n → ∀ x, n - k ≤ x → x ≤ We - k → (k = 0 → x = We) → F1 (46 + k) x = nI (amf 1000000000 (spf (spp (wK g) lw j an) n k x) x)) → (r < n → ∀ x, n - r ≤ x → x ≤ We - r → (r = 0 → x = We) → F1 (53 + r % 2) x = nI (lO (spp (wK g) lw j an) n (n - r) x)) → (∀ h z, ¬ (46 ≤ h ∧ h ≤ 51) → ¬ (53 ≤ h ∧ h ≤ 55) → F1 h z = F h z) → Wd D g F1 A s.heap H locs s → lv_has ls 11 [(0, .ref (wad g 44)), (1, .ref (wad g (79 + j))), (2, .int (nI We)), (3, .ref (wad g (2 * rk + 3))), (4, .int (nI fr)), (5, .int (nI n)), (6, .int (nI lw)), (7, .int (dcI r))] → W p l e (rmc 2 0 0) s m args below meth c H locs 0 0 (MQ below (Qw (fun v g2 u => v = none ∧ g = g2 ∧ u 44 4 = nI (lO (spp (wK g) lw j an) n n We) ∧ (∀ k, k < n → u 56 k = nI (spX (spp (wK g) lw j an) n We k)) ∧ ∀ h z, (h < 44 ∨ 56 < h) → u h z = F h z) (Bw D A) A) args s 0 0 A) (F0 m 6 ls []) := by
    intro n_6
    induction n_6 with
    | zero => intro r F1 H locs ls hm; exact absurd hm (Nat.not_lt_zero _)
    | succ n_6 ih_6 =>
      intro r F1 H locs ls hm_6 hrn hch hrw zhF1 hw hl
      refine lv_iload hx hb d_PA_part_6 (lv_at hl 7 rfl) ?_
      rcases r with _ | q
      · refine u_if_lt (tgt := 110) (X := (-1)) hc (by decide) d_PA_part_8 (by decide) (fun c_1 => ?_) (fun c_1 => ?_)
        · have hso := sp_ok hpp hn1 hn6 hnW hW
          have hsx := fun k (hk : k < n) => sp_x hpp hn1 hn6 hnW hW hk
          have hsr := sp_rest hpp hn1 hn6 hnW hW
          refine lv_aload_n hx hb d_PA_part_110 rfl (lv_at hl 0 rfl) ?_
          refine lv_aload_n hx hb d_PA_part_111 rfl (lv_at hl 0 rfl) ?_
          refine gf_PA_16 hc hw d_PA_part_112 ?_
          refine lv_iconst (v := nI 0) hx hb d_PA_part_115 (by decide) ?_
          refine r_aldA hc hw (h := 52) (n := 2) (i := 0) (t0 := 3) rfl (by omega) rfl (by omega) (by decide) d_PA_part_116 (v := .ref (wad g (53 + 0))) (show va_rf (wrow g 53 2 0) = _ from by rw [wrow_at (by omega)]; rfl) ?_
          refine lv_iload_n hx hb d_PA_part_117 rfl (lv_at hl 2 rfl) ?_
          refine r_iald hc hw (h := 53 + 0) (n := 100) (i := We) (fun f => wt_paL g (by omega) f) (by omega) (by omega) (by decide) d_PA_part_118 (v := .int (nI (lO (spp (wK g) lw j an) n n We))) (congrArg Value.int (hrw (by omega) We (by omega) (by omega) (fun _ => rfl))) ?_
          refine pf_PA_40 hc hw d_PA_part_119 (fun H locs hw => ?_)
          refine lv_iload_n hx hb d_PA_part_122 rfl (lv_at hl 2 rfl) ?_
          refine lv_istore (lv' := [(7, .int (nI We)), (0, .ref (wad g 44)), (1, .ref (wad g (79 + j))), (2, .int (nI We)), (3, .ref (wad g (2 * rk + 3))), (4, .int (nI fr)), (5, .int (nI n)), (6, .int (nI lw))]) hx hb d_PA_part_123 hl (by decide) rfl (fun ls hl => ?_)
          refine lv_iconst (v := nI 0) hx hb d_PA_part_125 (by decide) ?_
          refine lv_istore (lv' := [(8, .int (nI 0)), (7, .int (nI We)), (0, .ref (wad g 44)), (1, .ref (wad g (79 + j))), (2, .int (nI We)), (3, .ref (wad g (2 * rk + 3))), (4, .int (nI fr)), (5, .int (nI n)), (6, .int (nI lw))]) hx hb d_PA_part_126 hl (by decide) rfl (fun ls hl => ?_)
          have loop_128 : ∀ (n_128 : Nat) (k : Nat) (F4 : wF) (H : Heap) (locs : List Loc) (ls : Array Slot), (n - k) < n_128 → (k ≤ n) → (∀ z, z < k → F4 56 z = nI (spX (spp (wK g) lw j an) n We z)) → (∀ h z, h ≠ 56 → F4 h z = u2 F1 44 4 (nI (lO (spp (wK g) lw j an) n n We)) h z) → Wd D g F4 A s.heap H locs s → lv_has ls 11 [(0, .ref (wad g 44)), (1, .ref (wad g (79 + j))), (2, .int (nI We)), (3, .ref (wad g (2 * rk + 3))), (4, .int (nI fr)), (5, .int (nI n)), (6, .int (nI lw)), (7, .int (nI (spL (spp (wK g) lw j an) n We k))), (8, .int (nI k))] → W p l e (rmc 2 0 0) s m args below meth c H locs 0 0 (MQ below (Qw (fun v g2 u => v = none ∧ g = g2 ∧ u 44 4 = nI (lO (spp (wK g) lw j an) n n We) ∧ (∀ k, k < n → u 56 k = nI (spX (spp (wK g) lw j an) n We k)) ∧ ∀ h z, (h < 44 ∨ 56 < h) → u h z = F h z) (Bw D A) A) args s 0 0 A) (F0 m 128 ls []) := by
            intro n_128
            induction n_128 with
            | zero => intro k F4 H locs ls hm; exact absurd hm (Nat.not_lt_zero _)
            | succ n_128 ih_128 =>
              intro k F4 H locs ls hm_128 hk hwt hF4 hw hl
              refine lv_iload hx hb d_PA_part_128 (lv_at hl 8 rfl) ?_
              refine lv_iload hx hb d_PA_part_130 (lv_at hl 5 rfl) ?_
              refine q_icmp_ge (tgt := 170) hc (by omega) (by omega) d_PA_part_132 (by decide) (fun c_2 => ?_) (fun c_2 => ?_)
              · exact W_v hc hw hr hlocks (⟨rfl, rfl, (hF4 44 4 (by decide)).trans (u2_same _ _ _ _), fun z hz => hwt z (by omega), fun h z hh => (hF4 h z (by omega)).trans ((u2_h (by omega)).trans (zhF1 h z (by omega) (by omega)))⟩) d_PA_part_170
              · obtain ⟨ho1, ho2, ho3⟩ := hso k (by omega)
                obtain ⟨hx1, hx2, hx3, hx4⟩ := hsx k (by omega)
                have hr9 := hsr k (by omega)
                refine lv_aload_n hx hb d_PA_part_135 rfl (lv_at hl 0 rfl) ?_
                refine gf_PA_23 hc hw d_PA_part_136 ?_
                refine lv_iload hx hb d_PA_part_139 (lv_at hl 8 rfl) ?_
                refine lv_aload_n hx hb d_PA_part_141 rfl (lv_at hl 0 rfl) ?_
                refine gf_PA_11 hc hw d_PA_part_142 ?_
                refine lv_iload hx hb d_PA_part_145 (lv_at hl 8 rfl) ?_
                refine r_aldA hc hw (h := 45) (n := 6) (i := k) (t0 := 3) rfl (by omega) rfl (by omega) (by decide) d_PA_part_147 (v := .ref (wad g (46 + k))) (show va_rf (wrow g 46 6 k) = _ from by rw [wrow_at (by omega)]; rfl) ?_
                refine lv_iload hx hb d_PA_part_148 (lv_at hl 7 rfl) ?_
                refine r_iald hc hw (h := 46 + k) (n := 100) (i := spL (spp (wK g) lw j an) n We k) (fun f => wt_paC g (by omega) f) (by omega) (by omega) (by decide) d_PA_part_150 (v := .int (nI (spX (spp (wK g) lw j an) n We k))) (congrArg Value.int ((hF4 _ _ (by omega)).trans ((u2_h (by omega)).trans (hch k (by omega) (by omega) _ ho1 (by omega) (fun h9 => by rw [h9]; rfl))))) ?_
                refine r_iast hc hw (h := 56) (n := 6) (i := k) (fun _ => rfl) (by omega) (by omega) (by decide) d_PA_part_151 (fun H locs hw => ?_)
                refine lv_iload hx hb d_PA_part_152 (lv_at hl 7 rfl) ?_
                refine lv_aload_n hx hb d_PA_part_154 rfl (lv_at hl 0 rfl) ?_
                refine gf_PA_23 hc hw d_PA_part_155 ?_
                refine lv_iload hx hb d_PA_part_158 (lv_at hl 8 rfl) ?_
                refine r_iald hc hw (h := 56) (n := 6) (i := k) (fun _ => rfl) (by omega) (by omega) (by decide) d_PA_part_160 (v := .int (nI (spX (spp (wK g) lw j an) n We k))) (congrArg Value.int (u2_same _ _ _ _)) ?_
                refine q_isub hc (by omega) d_PA_part_161 ?_
                refine lv_istore (lv' := [(7, .int (nI ((spL (spp (wK g) lw j an) n We k) - (spX (spp (wK g) lw j an) n We k)))), (0, .ref (wad g 44)), (1, .ref (wad g (79 + j))), (2, .int (nI We)), (3, .ref (wad g (2 * rk + 3))), (4, .int (nI fr)), (5, .int (nI n)), (6, .int (nI lw)), (8, .int (nI k))]) hx hb d_PA_part_162 hl (by decide) rfl (fun ls hl => ?_)
                refine lv_iinc (v := nI (k + 1)) (lv' := [(8, .int (nI (k + 1))), (7, .int (nI ((spL (spp (wK g) lw j an) n We k) - (spX (spp (wK g) lw j an) n We k)))), (0, .ref (wad g 44)), (1, .ref (wad g (79 + j))), (2, .int (nI We)), (3, .ref (wad g (2 * rk + 3))), (4, .int (nI fr)), (5, .int (nI n)), (6, .int (nI lw))]) hx hb d_PA_part_164 hl (k := 8) rfl (nI_inc1 _) (by decide) rfl (fun ls hl => ?_)
                refine lv_goto (tgt := 128) hx hb d_PA_part_167 (by decide) ?_
                have hl : lv_has ls 11 [(8, .int (nI (k + 1))), (7, .int (nI (spL (spp (wK g) lw j an) n We (k + 1)))), (0, .ref (wad g 44)), (1, .ref (wad g (79 + j))), (2, .int (nI We)), (3, .ref (wad g (2 * rk + 3))), (4, .int (nI fr)), (5, .int (nI n)), (6, .int (nI lw))] := by rw [show spL (spp (wK g) lw j an) n We (k + 1) = (spL (spp (wK g) lw j an) n We k) - (spX (spp (wK g) lw j an) n We k) from by rfl]; exact hl
                exact ih_128 (k + 1) _ _ _ _ (by omega) (by omega) (fun z hz => by rcases (show z < k ∨ z = k by omega) with e9 | e9; exact (u2_i (by omega)).trans (hwt z e9); (rw [e9]; exact u2_same _ _ _ _)) (fun h z hh => (u2_h hh).trans (hF4 h z hh)) hw (lv_sub hl [2, 3, 4, 5, 6, 7, 8, 1, 0] rfl)
          have hl : lv_has ls 11 [(8, .int (nI 0)), (7, .int (nI (spL (spp (wK g) lw j an) n We 0))), (0, .ref (wad g 44)), (1, .ref (wad g (79 + j))), (2, .int (nI We)), (3, .ref (wad g (2 * rk + 3))), (4, .int (nI fr)), (5, .int (nI n)), (6, .int (nI lw))] := by rw [show spL (spp (wK g) lw j an) n We 0 = We from by rfl]; exact hl
          exact loop_128 _ 0 _ _ _ _ (Nat.lt_succ_self _) (by omega) (fun k hk => absurd hk (Nat.not_lt_zero k)) (fun _ _ _ => rfl) hw (lv_sub hl [2, 3, 4, 5, 6, 7, 8, 1, 0] rfl)
        · exact absurd c_1 (by decide)
      · have hl : lv_has ls 11 [(0, .ref (wad g 44)), (1, .ref (wad g (79 + j))), (2, .int (nI We)), (3, .ref (wad g (2 * rk + 3))), (4, .int (nI fr)), (5, .int (nI n)), (6, .int (nI lw)), (7, .int (nI q))] := hl
        refine q_if_lt (tgt := 110) hc (by omega) d_PA_part_8 (by decide) ?_
        refine lv_iconst (v := nI 1) hx hb d_PA_part_11 (by decide) ?_
        refine lv_istore (lv' := [(8, .int (nI 1)), (0, .ref (wad g 44)), (1, .ref (wad g (79 + j))), (2, .int (nI We)), (3, .ref (wad g (2 * rk + 3))), (4, .int (nI fr)), (5, .int (nI n)), (6, .int (nI lw)), (7, .int (nI q))]) hx hb d_PA_part_12 hl (by decide) rfl (fun ls hl => ?_)
        have loop_14 : ∀ (n_14 : Nat) (i : Nat) (F2 : wF) (H : Heap) (locs : List Loc) (ls : Array Slot), (We - i) < n_14 → (i ≤ We) → (∀ w, 1 ≤ w → w ≤ i → F2 55 w = nI ((spp (wK g) lw j an) q w)) → (∀ h z, h ≠ 55 → F2 h z = F1 h z) → Wd D g F2 A s.heap H locs s → lv_has ls 11 [(0, .ref (wad g 44)), (1, .ref (wad g (79 + j))), (2, .int (nI We)), (3, .ref (wad g (2 * rk + 3))), (4, .int (nI fr)), (5, .int (nI n)), (6, .int (nI lw)), (7, .int (nI q)), (8, .int (nI (i + 1)))] → W p l e (rmc 2 0 0) s m args below meth c H locs 0 0 (MQ below (Qw (fun v g2 u => v = none ∧ g = g2 ∧ u 44 4 = nI (lO (spp (wK g) lw j an) n n We) ∧ (∀ k, k < n → u 56 k = nI (spX (spp (wK g) lw j an) n We k)) ∧ ∀ h z, (h < 44 ∨ 56 < h) → u h z = F h z) (Bw D A) A) args s 0 0 A) (F0 m 14 ls []) := by
          intro n_14
          induction n_14 with
          | zero => intro i F2 H locs ls hm; exact absurd hm (Nat.not_lt_zero _)
          | succ n_14 ih_14 =>
            intro i F2 H locs ls hm_14 hi hpr zhF2 hw hl
            refine lv_iload hx hb d_PA_part_14 (lv_at hl 8 rfl) ?_
            refine lv_iload_n hx hb d_PA_part_16 rfl (lv_at hl 2 rfl) ?_
            refine q_icmp_gt (tgt := 51) hc (by omega) (by omega) d_PA_part_17 (by decide) (fun c_4 => ?_) (fun c_4 => ?_)
            · refine lv_iload hx hb d_PA_part_51 (lv_at hl 5 rfl) ?_
              refine lv_iconst (v := nI 1) hx hb d_PA_part_53 (by decide) ?_
              refine q_isub hc (by omega) d_PA_part_54 ?_
              refine lv_iload hx hb d_PA_part_55 (lv_at hl 7 rfl) ?_
              refine q_isub hc (by omega) d_PA_part_57 ?_
              refine lv_istore (lv' := [(8, .int (nI ((n - 1) - q))), (0, .ref (wad g 44)), (1, .ref (wad g (79 + j))), (2, .int (nI We)), (3, .ref (wad g (2 * rk + 3))), (4, .int (nI fr)), (5, .int (nI n)), (6, .int (nI lw)), (7, .int (nI q))]) hx hb d_PA_part_58 hl (by decide) rfl (fun ls hl => ?_)
              refine lv_iload hx hb d_PA_part_60 (lv_at hl 8 rfl) ?_
              refine q_if_ne (tgt := 69) hc (by omega) d_PA_part_62 (by decide) (fun c_5 => ?_) (fun c_5 => ?_)
              · have hst : n - 1 - q + 1 = n - q := by omega
                refine lv_iload hx hb d_PA_part_69 (lv_at hl 0 rfl) ?_
                refine lv_iconst (v := nI 1) hx hb d_PA_part_71 (by decide) ?_
                refine q_iadd hc d_PA_part_72 ?_
                refine lv_istore (lv' := [(9, .int (nI (((n - 1) - q) + 1))), (8, .int (nI ((n - 1) - q))), (0, .ref (wad g 44)), (1, .ref (wad g (79 + j))), (2, .int (nI We)), (3, .ref (wad g (2 * rk + 3))), (4, .int (nI fr)), (5, .int (nI n)), (6, .int (nI lw)), (7, .int (nI q))]) hx hb d_PA_part_73 hl (by decide) rfl (fun ls hl => ?_)
                refine lv_iload hx hb d_PA_part_75 (lv_at hl 0 rfl) ?_
                refine lv_istore (lv' := [(10, .int (nI (((n - 1) - q) + 1))), (9, .int (nI (((n - 1) - q) + 1))), (8, .int (nI ((n - 1) - q))), (0, .ref (wad g 44)), (1, .ref (wad g (79 + j))), (2, .int (nI We)), (3, .ref (wad g (2 * rk + 3))), (4, .int (nI fr)), (5, .int (nI n)), (6, .int (nI lw)), (7, .int (nI q))]) hx hb d_PA_part_77 hl (by decide) rfl (fun ls hl => ?_)
                have loop_79 : ∀ (n_79 : Nat) (x : Nat) (F3 : wF) (H : Heap) (locs : List Loc) (ls : Array Slot), (We + 1 - x) < n_79 → (((n - 1) - q) + 1 ≤ x) → (x ≤ We - q + 1) → (∀ z, ((n - 1) - q) + 1 ≤ z → z < x → F3 (46 + q) z = nI (amf 1000000000 (spf (spp (wK g) lw j an) n q z) z) ∧ F3 (53 + q % 2) z = nI (lO (spp (wK g) lw j an) n (n - q) z)) → (∀ h z, ¬ (h = 46 + q ∨ h = 53 + q % 2) → F3 h z = F2 h z) → Wd D g F3 A s.heap H locs s → lv_has ls 11 [(0, .ref (wad g 44)), (1, .ref (wad g (79 + j))), (2, .int (nI We)), (3, .ref (wad g (2 * rk + 3))), (4, .int (nI fr)), (5, .int (nI n)), (6, .int (nI lw)), (7, .int (nI q)), (8, .int (nI ((n - 1) - q))), (9, .int (nI (((n - 1) - q) + 1))), (10, .int (nI x))] → W p l e (rmc 2 0 0) s m args below meth c H locs 0 0 (MQ below (Qw (fun v g2 u => v = none ∧ g = g2 ∧ u 44 4 = nI (lO (spp (wK g) lw j an) n n We) ∧ (∀ k, k < n → u 56 k = nI (spX (spp (wK g) lw j an) n We k)) ∧ ∀ h z, (h < 44 ∨ 56 < h) → u h z = F h z) (Bw D A) A) args s 0 0 A) (F0 m 79 ls []) := by
                  intro n_79
                  induction n_79 with
                  | zero => intro x F3 H locs ls hm; exact absurd hm (Nat.not_lt_zero _)
                  | succ n_79 ih_79 =>
                    intro x F3 H locs ls hm_79 hsx hxW hin zhF3 hw hl
                    refine lv_iload hx hb d_PA_part_79 (lv_at hl 10 rfl) ?_
                    refine lv_iload_n hx hb d_PA_part_81 rfl (lv_at hl 2 rfl) ?_
                    refine lv_iload hx hb d_PA_part_82 (lv_at hl 7 rfl) ?_
                    refine q_isub hc (by omega) d_PA_part_84 ?_
                    refine q_icmp_gt (tgt := 104) hc (by omega) (by omega) d_PA_part_85 (by decide) (fun c_6 => ?_) (fun c_6 => ?_)
                    · refine lv_iinc (v := nI q + (-1)) (lv' := [(7, .int (nI q + (-1))), (0, .ref (wad g 44)), (1, .ref (wad g (79 + j))), (2, .int (nI We)), (3, .ref (wad g (2 * rk + 3))), (4, .int (nI fr)), (5, .int (nI n)), (6, .int (nI lw)), (8, .int (nI ((n - 1) - q))), (9, .int (nI (((n - 1) - q) + 1))), (10, .int (nI x))]) hx hb d_PA_part_104 hl (k := 7) rfl rfl (by decide) rfl (fun ls hl => ?_)
                      refine lv_goto (tgt := 6) hx hb d_PA_part_107 (by decide) ?_
                      have hl : lv_has ls 11 [(7, .int (dcI q)), (0, .ref (wad g 44)), (1, .ref (wad g (79 + j))), (2, .int (nI We)), (3, .ref (wad g (2 * rk + 3))), (4, .int (nI fr)), (5, .int (nI n)), (6, .int (nI lw)), (8, .int (nI ((n - 1) - q))), (9, .int (nI (((n - 1) - q) + 1))), (10, .int (nI x))] := by rw [show dcI q = nI q + (-1) from by exact dcI_e _]; exact hl
                      exact ih_6 q _ _ _ _ (by omega) (by omega) (fun k h1 h2 x h3 h4 h5 => by rcases (show k = q ∨ q + 1 ≤ k by omega) with e9 | e9; (subst e9; exact (hin x (by have := hst; omega) (by omega)).1); exact (zhF3 _ _ (by omega)).trans ((zhF2 _ _ (by omega)).trans (hch k e9 h2 x h3 h4 h5))) (fun _ x h3 h4 h5 => (hin x (by have := hst; omega) (by omega)).2) (fun h z h1 h2 => (zhF3 h z (by omega)).trans ((zhF2 h z (by omega)).trans (zhF1 h z h1 h2))) hw (lv_sub hl [1, 2, 3, 4, 5, 6, 7, 0] rfl)
                    · refine lv_aload_n hx hb d_PA_part_88 rfl (lv_at hl 0 rfl) ?_
                      refine lv_iload hx hb d_PA_part_89 (lv_at hl 7 rfl) ?_
                      refine lv_iload hx hb d_PA_part_91 (lv_at hl 10 rfl) ?_
                      refine lv_iload hx hb d_PA_part_93 (lv_at hl 8 rfl) ?_
                      rw [show n - 1 - q = n - (q + 1) by omega]
                      refine kWV hc hw lk_PA_36 (h := 44) (As := [.int (nI q), .int (nI x), .int (nI (n - (q + 1)))]) (rest := []) (c_PA_choose l D g _ (spp (wK g) lw j an) n We q x (by omega) (by omega) (by omega) (by have := hst; omega) (by omega) hpp (fun w h1 h2 => (zhF3 55 w (by omega)).trans (hpr w h1 (by omega))) (fun h9 z h1 h2 => (zhF3 _ _ (by omega)).trans ((zhF2 _ _ (by omega)).trans (hrw h9 z h1 (by omega) (fun h8 => absurd h8 (by omega)))))) (rc_PA hw) ⟨Nat.le_of_ble_eq_true rfl, Nat.le_of_ble_eq_true rfl⟩ ⟨by exact Nat.le_refl _, by exact Nat.le_refl _⟩ rfl hl rfl (Nat.le_of_ble_eq_true rfl) d_PA_part_95 (fun v_7 g_8 F_9 H locs zhp_10 hw => ?_)
                      obtain ⟨rfl, rfl, hc3, hc4, hc5⟩ := zhp_10
                      refine lv_iinc (v := nI (x + 1)) (lv' := [(10, .int (nI (x + 1))), (0, .ref (wad g 44)), (1, .ref (wad g (79 + j))), (2, .int (nI We)), (3, .ref (wad g (2 * rk + 3))), (4, .int (nI fr)), (5, .int (nI n)), (6, .int (nI lw)), (7, .int (nI q)), (8, .int (nI ((n - 1) - q))), (9, .int (nI (((n - 1) - q) + 1)))]) hx hb d_PA_part_98 hl (k := 10) rfl (nI_inc1 _) (by decide) rfl (fun ls hl => ?_)
                      refine lv_goto (tgt := 79) hx hb d_PA_part_101 (by decide) ?_
                      exact ih_79 (x + 1) _ _ _ _ (by omega) (by omega) (by omega) (fun z h1 h2 => by rcases (show z < x ∨ z = x by omega) with e9 | e9; (rw [hc5 _ z (by omega), hc5 _ z (by omega)]; exact hin z h1 e9); (rw [e9]; exact ⟨hc3, hc4⟩)) (fun h z hh => (hc5 h z (by omega)).trans (zhF3 h z hh)) hw (lv_sub hl [1, 2, 3, 4, 5, 6, 7, 8, 9, 10, 0] rfl)
                exact loop_79 _ (((n - 1) - q) + 1) _ _ _ _ (Nat.lt_succ_self _) (by omega) (by omega) (fun x h1 h2 => absurd h2 (by omega)) (fun _ _ _ => rfl) hw (lv_sub hl [3, 4, 5, 6, 7, 8, 9, 10, 2, 1, 0] rfl)
              · have hst : We = n - q ∨ q = 0 := Or.inr c_5
                refine lv_iload_n hx hb d_PA_part_65 rfl (lv_at hl 3 rfl) ?_
                refine lv_goto (tgt := 73) hx hb d_PA_part_66 (by decide) ?_
                refine lv_istore (lv' := [(9, .int (nI We)), (8, .int (nI ((n - 1) - q))), (0, .ref (wad g 44)), (1, .ref (wad g (79 + j))), (2, .int (nI We)), (3, .ref (wad g (2 * rk + 3))), (4, .int (nI fr)), (5, .int (nI n)), (6, .int (nI lw)), (7, .int (nI q))]) hx hb d_PA_part_73 hl (by decide) rfl (fun ls hl => ?_)
                refine lv_iload hx hb d_PA_part_75 (lv_at hl 0 rfl) ?_
                refine lv_istore (lv' := [(10, .int (nI We)), (9, .int (nI We)), (8, .int (nI ((n - 1) - q))), (0, .ref (wad g 44)), (1, .ref (wad g (79 + j))), (2, .int (nI We)), (3, .ref (wad g (2 * rk + 3))), (4, .int (nI fr)), (5, .int (nI n)), (6, .int (nI lw)), (7, .int (nI q))]) hx hb d_PA_part_77 hl (by decide) rfl (fun ls hl => ?_)
                have loop_79 : ∀ (n_79 : Nat) (x : Nat) (F3 : wF) (H : Heap) (locs : List Loc) (ls : Array Slot), (We + 1 - x) < n_79 → (We ≤ x) → (x ≤ We - q + 1) → (∀ z, We ≤ z → z < x → F3 (46 + q) z = nI (amf 1000000000 (spf (spp (wK g) lw j an) n q z) z) ∧ F3 (53 + q % 2) z = nI (lO (spp (wK g) lw j an) n (n - q) z)) → (∀ h z, ¬ (h = 46 + q ∨ h = 53 + q % 2) → F3 h z = F2 h z) → Wd D g F3 A s.heap H locs s → lv_has ls 11 [(0, .ref (wad g 44)), (1, .ref (wad g (79 + j))), (2, .int (nI We)), (3, .ref (wad g (2 * rk + 3))), (4, .int (nI fr)), (5, .int (nI n)), (6, .int (nI lw)), (7, .int (nI q)), (8, .int (nI ((n - 1) - q))), (9, .int (nI We)), (10, .int (nI x))] → W p l e (rmc 2 0 0) s m args below meth c H locs 0 0 (MQ below (Qw (fun v g2 u => v = none ∧ g = g2 ∧ u 44 4 = nI (lO (spp (wK g) lw j an) n n We) ∧ (∀ k, k < n → u 56 k = nI (spX (spp (wK g) lw j an) n We k)) ∧ ∀ h z, (h < 44 ∨ 56 < h) → u h z = F h z) (Bw D A) A) args s 0 0 A) (F0 m 79 ls []) := by
                  intro n_79
                  induction n_79 with
                  | zero => intro x F3 H locs ls hm; exact absurd hm (Nat.not_lt_zero _)
                  | succ n_79 ih_79 =>
                    intro x F3 H locs ls hm_79 hsx hxW hin zhF3 hw hl
                    refine lv_iload hx hb d_PA_part_79 (lv_at hl 10 rfl) ?_
                    refine lv_iload_n hx hb d_PA_part_81 rfl (lv_at hl 2 rfl) ?_
                    refine lv_iload hx hb d_PA_part_82 (lv_at hl 7 rfl) ?_
                    refine q_isub hc (by omega) d_PA_part_84 ?_
                    refine q_icmp_gt (tgt := 104) hc (by omega) (by omega) d_PA_part_85 (by decide) (fun c_11 => ?_) (fun c_11 => ?_)
                    · refine lv_iinc (v := nI q + (-1)) (lv' := [(7, .int (nI q + (-1))), (0, .ref (wad g 44)), (1, .ref (wad g (79 + j))), (2, .int (nI We)), (3, .ref (wad g (2 * rk + 3))), (4, .int (nI fr)), (5, .int (nI n)), (6, .int (nI lw)), (8, .int (nI ((n - 1) - q))), (9, .int (nI We)), (10, .int (nI x))]) hx hb d_PA_part_104 hl (k := 7) rfl rfl (by decide) rfl (fun ls hl => ?_)
                      refine lv_goto (tgt := 6) hx hb d_PA_part_107 (by decide) ?_
                      have hl : lv_has ls 11 [(7, .int (dcI q)), (0, .ref (wad g 44)), (1, .ref (wad g (79 + j))), (2, .int (nI We)), (3, .ref (wad g (2 * rk + 3))), (4, .int (nI fr)), (5, .int (nI n)), (6, .int (nI lw)), (8, .int (nI ((n - 1) - q))), (9, .int (nI We)), (10, .int (nI x))] := by rw [show dcI q = nI q + (-1) from by exact dcI_e _]; exact hl
                      exact ih_6 q _ _ _ _ (by omega) (by omega) (fun k h1 h2 x h3 h4 h5 => by rcases (show k = q ∨ q + 1 ≤ k by omega) with e9 | e9; (subst e9; exact (hin x (by have := hst; omega) (by omega)).1); exact (zhF3 _ _ (by omega)).trans ((zhF2 _ _ (by omega)).trans (hch k e9 h2 x h3 h4 h5))) (fun _ x h3 h4 h5 => (hin x (by have := hst; omega) (by omega)).2) (fun h z h1 h2 => (zhF3 h z (by omega)).trans ((zhF2 h z (by omega)).trans (zhF1 h z h1 h2))) hw (lv_sub hl [1, 2, 3, 4, 5, 6, 7, 0] rfl)
                    · refine lv_aload_n hx hb d_PA_part_88 rfl (lv_at hl 0 rfl) ?_
                      refine lv_iload hx hb d_PA_part_89 (lv_at hl 7 rfl) ?_
                      refine lv_iload hx hb d_PA_part_91 (lv_at hl 10 rfl) ?_
                      refine lv_iload hx hb d_PA_part_93 (lv_at hl 8 rfl) ?_
                      rw [show n - 1 - q = n - (q + 1) by omega]
                      refine kWV hc hw lk_PA_36 (h := 44) (As := [.int (nI q), .int (nI x), .int (nI (n - (q + 1)))]) (rest := []) (c_PA_choose l D g _ (spp (wK g) lw j an) n We q x (by omega) (by omega) (by omega) (by have := hst; omega) (by omega) hpp (fun w h1 h2 => (zhF3 55 w (by omega)).trans (hpr w h1 (by omega))) (fun h9 z h1 h2 => (zhF3 _ _ (by omega)).trans ((zhF2 _ _ (by omega)).trans (hrw h9 z h1 (by omega) (fun h8 => absurd h8 (by omega)))))) (rc_PA hw) ⟨Nat.le_of_ble_eq_true rfl, Nat.le_of_ble_eq_true rfl⟩ ⟨by exact Nat.le_refl _, by exact Nat.le_refl _⟩ rfl hl rfl (Nat.le_of_ble_eq_true rfl) d_PA_part_95 (fun v_12 g_13 F_14 H locs zhp_15 hw => ?_)
                      obtain ⟨rfl, rfl, hc3, hc4, hc5⟩ := zhp_15
                      refine lv_iinc (v := nI (x + 1)) (lv' := [(10, .int (nI (x + 1))), (0, .ref (wad g 44)), (1, .ref (wad g (79 + j))), (2, .int (nI We)), (3, .ref (wad g (2 * rk + 3))), (4, .int (nI fr)), (5, .int (nI n)), (6, .int (nI lw)), (7, .int (nI q)), (8, .int (nI ((n - 1) - q))), (9, .int (nI We))]) hx hb d_PA_part_98 hl (k := 10) rfl (nI_inc1 _) (by decide) rfl (fun ls hl => ?_)
                      refine lv_goto (tgt := 79) hx hb d_PA_part_101 (by decide) ?_
                      exact ih_79 (x + 1) _ _ _ _ (by omega) (by omega) (by omega) (fun z h1 h2 => by rcases (show z < x ∨ z = x by omega) with e9 | e9; (rw [hc5 _ z (by omega), hc5 _ z (by omega)]; exact hin z h1 e9); (rw [e9]; exact ⟨hc3, hc4⟩)) (fun h z hh => (hc5 h z (by omega)).trans (zhF3 h z hh)) hw (lv_sub hl [1, 2, 3, 4, 5, 6, 7, 8, 9, 10, 0] rfl)
                exact loop_79 _ (We) _ _ _ _ (Nat.lt_succ_self _) (by omega) (by omega) (fun x h1 h2 => absurd h2 (by omega)) (fun _ _ _ => rfl) hw (lv_sub hl [3, 4, 5, 6, 7, 8, 9, 10, 2, 1, 0] rfl)
            · have hsw := shw_le (k := wK g j) (w := i + 1) (by omega)
              have ha9 := (han q (by omega)).1
              refine lv_aload_n hx hb d_PA_part_20 rfl (lv_at hl 0 rfl) ?_
              refine gf_PA_19 hc hw d_PA_part_21 ?_
              refine lv_iload hx hb d_PA_part_24 (lv_at hl 8 rfl) ?_
              refine lv_iload hx hb d_PA_part_26 (lv_at hl 6 rfl) ?_
              refine lv_aload_n hx hb d_PA_part_28 rfl (lv_at hl 1 rfl) ?_
              refine lv_iload hx hb d_PA_part_29 (lv_at hl 8 rfl) ?_
              refine vs_PA_26 hc hw (j := j) (hj) (h2) (w := i + 1) (by omega) ⟨Nat.le_of_ble_eq_true rfl, Nat.le_of_ble_eq_true rfl⟩ ⟨Nat.le_refl _, Nat.le_refl _⟩ hl (Nat.le_of_ble_eq_true rfl) d_PA_part_31 ?_
              refine lv_aload_n hx hb d_PA_part_34 rfl (lv_at hl 3 rfl) ?_
              refine lv_iload hx hb d_PA_part_35 (lv_at hl 4 rfl) ?_
              refine lv_iload hx hb d_PA_part_37 (lv_at hl 7 rfl) ?_
              refine q_iadd hc d_PA_part_39 ?_
              refine r_iald hc hw (h := 2 * rk + 3) (n := 40) (i := fr + q) (fun f => wt_cells g (hrk) f) (by omega) (by omega) (by decide) d_PA_part_40 (v := .int (nI (an q))) (congrArg Value.int ((zhF2 _ _ (by omega)).trans ((zhF1 _ _ (by omega) (by omega)).trans (han q (by omega)).2))) ?_
              refine kRN hc hw lk_PA_32 (As := [.int (nI lw), .int (nI (shw (wK g j) (i + 1))), .int (nI (an q))]) (rest := [.int (nI (i + 1)), .ref (wad g 55)]) (c_AP_pays l D g _ (lw) (shw (wK g j) (i + 1)) (an q) (by omega) (by omega) (by omega)) ⟨Nat.le_of_ble_eq_true rfl, Nat.le_of_ble_eq_true rfl⟩ ⟨Nat.le_refl _, Nat.le_refl _⟩ rfl hl rfl (Nat.le_of_ble_eq_true rfl) d_PA_part_41 ?_
              refine r_iast hc hw (h := 55) (n := 100) (i := i + 1) (fun _ => rfl) (by omega) (by omega) (by decide) d_PA_part_44 (fun H locs hw => ?_)
              refine lv_iinc (v := nI ((i + 1) + 1)) (lv' := [(8, .int (nI ((i + 1) + 1))), (0, .ref (wad g 44)), (1, .ref (wad g (79 + j))), (2, .int (nI We)), (3, .ref (wad g (2 * rk + 3))), (4, .int (nI fr)), (5, .int (nI n)), (6, .int (nI lw)), (7, .int (nI q))]) hx hb d_PA_part_45 hl (k := 8) rfl (nI_inc1 _) (by decide) rfl (fun ls hl => ?_)
              refine lv_goto (tgt := 14) hx hb d_PA_part_48 (by decide) ?_
              exact ih_14 (i + 1) _ _ _ _ (by omega) (by omega) (fun w h1 h2 => by rcases (show w ≤ i ∨ w = i + 1 by omega) with e9 | e9; exact (u2_i (by omega)).trans (hpr w h1 e9); (rw [e9]; exact u2_same _ _ _ _)) (fun h z hh => (u2_h hh).trans (zhF2 h z hh)) hw (lv_sub hl [1, 2, 3, 4, 5, 6, 7, 8, 0] rfl)
        have hl : lv_has ls 11 [(8, .int (nI (0 + 1))), (0, .ref (wad g 44)), (1, .ref (wad g (79 + j))), (2, .int (nI We)), (3, .ref (wad g (2 * rk + 3))), (4, .int (nI fr)), (5, .int (nI n)), (6, .int (nI lw)), (7, .int (nI q))] := by rw [show 0 + 1 = 1 from by rfl]; exact hl
        exact loop_14 _ 0 _ _ _ _ (Nat.lt_succ_self _) (by omega) (fun w h1 h2 => absurd h1 (by omega)) (fun _ _ _ => rfl) hw (lv_sub hl [1, 2, 3, 4, 5, 6, 7, 8, 0] rfl)
  have hl : lv_has ls 11 [(7, .int (dcI n)), (0, .ref (wad g 44)), (1, .ref (wad g (79 + j))), (2, .int (nI We)), (3, .ref (wad g (2 * rk + 3))), (4, .int (nI fr)), (5, .int (nI n)), (6, .int (nI lw))] := by rw [show dcI n = nI (n - 1) from by obtain ⟨q, rfl⟩ : ∃ q, n = q + 1 := ⟨n - 1, by omega⟩; rfl]; exact hl
  exact loop_6 _ n _ _ _ _ (Nat.lt_succ_self _) (by omega) (fun k h1 h2 => absurd h1 (by omega)) (fun h => absurd h (by omega)) (fun _ _ _ _ => rfl) hw (lv_sub hl [1, 2, 3, 4, 5, 6, 7, 0] rfl)
