/-! printed by wip/gen/meths20.py: Settling -/
def mx2 (a b : Nat) : Nat := if a < b then b else a
def mn2 (a b : Nat) : Nat := if b < a then b else a
theorem mx2_le (a b : Nat) : a ≤ mx2 a b ∧ b ≤ mx2 a b ∧ (mx2 a b = a ∨ mx2 a b = b) := by unfold mx2; split <;> omega
section W3
variable {p : Program} {l : Launch} {e : Env} {R : Room} {s : State} {m : MethodId} {args : Array Value} {below : List Frame} {meth : Method} {c : Code} {H : Heap} {locs : List Loc} {cells slots : Nat} {Q : State → Prop}
variable {cc : ByteArray} {pc : Nat} {ls : Array Slot} {lv : List (Nat × Value)} {rest st : List Value} {nL : Nat}
theorem r_max (hc : CallFix p m c cc nL s args gws R_SE) {x y : Nat} (hx : x < 2 ^ 31) (hy : y < 2 ^ 31) (hl : lv_has ls nL lv) (hf : 1 ≤ R.frames) (hlo : (rest.map fun v => v.category).sum + 13 ≤ R.locals) (hce : cells ≤ R.cells) (hsl : slots ≤ R.slots) (hdg : decode cc pc = .ok (.invokestatic 29, 3))
    (kk : W p l e R s m args below meth c H locs cells slots Q (F0 m (pc + 3) ls (.int (nI (mx2 x y)) :: rest))) : W p l e R s m args below meth c H locs cells slots Q (F0 m pc ls (.int (nI y) :: .int (nI x) :: rest)) := by
  refine va_mmax hc.1 hc.2.1 (hc.2.2.1.trans hl.1.symm) hc.2.2.2.1 (hc.2.2.2.2 _ g_443) (hc.2.2.2.2 _ g_444) (hc.2.2.2.2 _ g_13) (hc.2.2.2.2 _ g_445) hf hlo hce hsl hdg ?_
  rw [show (if nI x < nI y then nI y else nI x) = nI (mx2 x y) from by
    unfold mx2
    by_cases h : x < y
    · rw [if_pos h, if_pos ((nI_ltI hx hy).mpr h)]
    · rw [if_neg h, if_neg (fun q => h ((nI_ltI hx hy).mp q))]]
  exact kk
theorem r_min (hc : CallFix p m c cc nL s args gws R_TU) {x y : Nat} (hx : x < 2 ^ 31) (hy : y < 2 ^ 31) (hl : lv_has ls nL lv) (hf : 1 ≤ R.frames) (hlo : (rest.map fun v => v.category).sum + 13 ≤ R.locals) (hce : cells ≤ R.cells) (hsl : slots ≤ R.slots) (hdg : decode cc pc = .ok (.invokestatic 55, 3))
    (kk : W p l e R s m args below meth c H locs cells slots Q (F0 m (pc + 3) ls (.int (nI (mn2 x y)) :: rest))) : W p l e R s m args below meth c H locs cells slots Q (F0 m pc ls (.int (nI y) :: .int (nI x) :: rest)) := by
  refine va_mmin hc.1 hc.2.1 (hc.2.2.1.trans hl.1.symm) hc.2.2.2.1 (hc.2.2.2.2 _ g_463) (hc.2.2.2.2 _ g_464) (hc.2.2.2.2 _ g_13) (hc.2.2.2.2 _ g_465) hf hlo hce hsl hdg ?_
  rw [show (if nI y < nI x then nI y else nI x) = nI (mn2 x y) from by
    unfold mn2
    by_cases h : y < x
    · rw [if_pos h, if_pos ((nI_ltI hy hx).mpr h)]
    · rw [if_neg h, if_neg (fun q => h ((nI_ltI hy hx).mp q))]]
  exact kk
end W3
theorem b_full : ∀ n, n < 7 → ∀ q, q < n → (2 ^ n - 1).testBit q = true := by decide +kernel
theorem sX_rm {nn : Nat → Int32} {X : Nat → Bool} {q : Nat} (hX : X q = true) : ∀ n, q < n → sX nn X n = sX nn (rmX X q) n + nn q := by
  intro n
  induction n with
  | zero => intro h; exact absurd h (Nat.not_lt_zero _)
  | succ n ih =>
    intro h
    unfold sX
    rcases (show q = n ∨ q < n by omega) with e | e
    · subst e
      rw [sX_c (Y := rmX X q) q (fun z hz => by unfold rmX; rw [decide_eq_false (show ¬ z = q by omega)]; cases X z <;> rfl), if_pos hX]
      rw [show rmX X q q = false from by unfold rmX; rw [decide_eq_true rfl]; cases X q <;> rfl]
      rw [if_neg (by decide), Int32.add_zero]
    · rw [ih e, show rmX X q n = X n from by unfold rmX; rw [decide_eq_false (show ¬ n = q by omega)]; cases X n <;> rfl]
      rw [Int32.add_assoc, Int32.add_comm (nn q), ← Int32.add_assoc]
theorem mk_rm {nn : Nat → Int32} {n z q : Nat} (hn : n ≤ 6) (hz : z < 64) (hq : q < n) (hb : z.testBit q = true) : mk nn n (z - 2 ^ q) + nn q = mk nn n z := by
  unfold mk
  rw [sX_rm hb n hq]
  congr 1
  exact sX_c n (fun r hr => b_rm z hz q (by omega) hb r (by omega))
theorem fill_fm {nn : Nat → Int32} {n z b : Nat} {ge : Nat → Nat} (hn : n ≤ 6) (hz : z < 2 ^ n) (hz1 : 1 ≤ z) (hg : ∀ w, w < z → FM nn n (Nat.testBit w) (ge w) ∧ ge w ≤ w) (h1 : ∀ q, q < n → z.testBit q = true → ge (z - 2 ^ q) ≤ b) (h2 : b = 0 ∨ ∃ q, q < n ∧ z.testBit q = true ∧ ge (z - 2 ^ q) = b) : FM nn n (Nat.testBit z) (if mk nn n z = 0 then b + 1 else b) ∧ b + 1 ≤ z := by
  have h64 := (pw6 hn).2
  have hr : ∀ q, q < n → z.testBit q = true → FM nn n (rmX (Nat.testBit z) q) (ge (z - 2 ^ q)) ∧ ge (z - 2 ^ q) < z := fun q hq hb => by
    have hx := (b_xor q (by omega) z (by omega) hb).2
    have h0 := (pw6 (show q ≤ 6 by omega)).1
    have hgw := hg (z - 2 ^ q) (by omega)
    exact ⟨FM_c (fun r hr => b_rm z (by omega) q (by omega) hb r (by omega)) hgw.1, by omega⟩
  have hex : ∃ q, q < n ∧ z.testBit q = true ∧ ge (z - 2 ^ q) = b := by
    rcases h2 with h | h
    · obtain ⟨q, hq, hb⟩ := b_nz z (by omega) hz1
      have zhq2 := b_hi n (by omega) z hz q hq hb
      have := h1 q zhq2 hb
      exact ⟨q, zhq2, hb, by omega⟩
    · exact h
  obtain ⟨q, hq, hb, hgb⟩ := hex
  obtain ⟨r1, r2⟩ := hr q hq hb
  refine ⟨FM_s (fun r hr2 hb2 => ⟨_, (hr r hr2 hb2).1, h1 r hr2 hb2⟩) ⟨q, hq, hb, by rw [← hgb]; exact r1⟩, by omega⟩
def TB (nn : Nat → Int32) (n : Nat) (ge : Nat → Nat) (F : wF) (z : Nat) : Prop := ∀ w, w < z → F 21 w = mk nn n w ∧ F 22 w = nI (ge w) ∧ FM nn n (Nat.testBit w) (ge w) ∧ ge w ≤ w
set_option maxHeartbeats 4000000 in
theorem c_SE_clear (l : Launch) (D : va_G) (g : wG) (F : wF)  : CW l y_SE_clear b_SE_clear 1 (Option.none) 0 0 0 D g F [.ref (wad g 19)] (fun v g2 u => v = none ∧ g = g2 ∧ u = u2 F 19 3 (nI 0)) := by
  refine CW.start rfl (Nat.le_of_ble_eq_true rfl) ?_
  intro p e s m args below meth c A ls hc hr hlocks hw hl
  have hl : lv_has ls 1 [(0, .ref (wad g 19))] := hl
  have hx := hc.1
  have hb := hc.2.1
  refine lv_aload_n hx hb d_SE_clear_0 rfl (lv_at hl 0 rfl) ?_
  refine lv_iconst (v := nI 0) hx hb d_SE_clear_1 (by decide) ?_
  refine pf_SE_21 hc hw d_SE_clear_2 (fun H locs hw => ?_)
  exact W_v hc hw hr hlocks (⟨rfl, rfl, rfl⟩) d_SE_clear_5
set_option maxHeartbeats 4000000 in
theorem c_SE_take_0 (l : Launch) (D : va_G) (g : wG) (F : wF) (ct : Nat) (h3 : F 19 3 = nI ct) (zp0 : Int32) (hp : zp0 = 0) : CW l y_SE_take b_SE_take 2 (Option.none) 0 0 0 D g F [.ref (wad g 19), .int zp0] (fun v g2 u => v = none ∧ g = g2 ∧ u = F) := by
  refine CW.start rfl (Nat.le_of_ble_eq_true rfl) ?_
  intro p e s m args below meth c A ls hc hr hlocks hw hl
  have hl : lv_has ls 2 [(0, .ref (wad g 19)), (1, .int zp0)] := hl
  have hx := hc.1
  have hb := hc.2.1
  refine lv_iload_n hx hb d_SE_take_0 rfl (lv_at hl 1 rfl) ?_
  refine u_if_eq (tgt := 33) (X := (zp0).toInt) hc (rfl) d_SE_take_1 (by decide) (fun c_1 => ?_) (fun c_1 => ?_)
  · exact W_v hc hw hr hlocks (⟨rfl, rfl, rfl⟩) d_SE_take_33
  · exact absurd (i_z.mpr hp) c_1
set_option maxHeartbeats 4000000 in
theorem c_SE_take_1 (l : Launch) (D : va_G) (g : wG) (F : wF) (ct : Nat) (h3 : F 19 3 = nI ct) (h6 : ct < 6) (zp0 : Int32) (hp : ¬ zp0 = 0) : CW l y_SE_take b_SE_take 2 (Option.none) 0 0 0 D g F [.ref (wad g 19), .int zp0] (fun v g2 u => v = none ∧ g = g2 ∧ u = u2 (u2 F 20 ct zp0) 19 3 (nI (ct + 1))) := by
  refine CW.start rfl (Nat.le_of_ble_eq_true rfl) ?_
  intro p e s m args below meth c A ls hc hr hlocks hw hl
  have hl : lv_has ls 2 [(0, .ref (wad g 19)), (1, .int zp0)] := hl
  have hx := hc.1
  have hb := hc.2.1
  refine lv_iload_n hx hb d_SE_take_0 rfl (lv_at hl 1 rfl) ?_
  refine u_if_eq (tgt := 33) (X := (zp0).toInt) hc (rfl) d_SE_take_1 (by decide) (fun c_1 => ?_) (fun c_1 => ?_)
  · exact absurd (i_z.mp c_1) hp
  · refine lv_aload_n hx hb d_SE_take_4 rfl (lv_at hl 0 rfl) ?_
    refine gf_SE_21 hc hw d_SE_take_5 (v := .int (nI ct)) (congrArg Value.int (h3)) ?_
    refine lv_bipush (v := nI 6) hx hb d_SE_take_8 (by decide) ?_
    refine q_icmp_ge (tgt := 33) hc (by omega) (by omega) d_SE_take_10 (by decide) (fun c_2 => ?_) (fun c_2 => ?_)
    · exact absurd c_2 (by first | omega | decide)
    · refine lv_aload_n hx hb d_SE_take_13 rfl (lv_at hl 0 rfl) ?_
      refine gf_SE_9 hc hw d_SE_take_14 ?_
      refine lv_aload_n hx hb d_SE_take_17 rfl (lv_at hl 0 rfl) ?_
      refine gf_SE_21 hc hw d_SE_take_18 (v := .int (nI ct)) (congrArg Value.int (h3)) ?_
      refine lv_iload_n hx hb d_SE_take_21 rfl (lv_at hl 1 rfl) ?_
      refine r_iast hc hw (h := 20) (n := 6) (i := ct) (fun _ => rfl) (by omega) (by omega) (by decide) d_SE_take_22 (fun H locs hw => ?_)
      refine lv_aload_n hx hb d_SE_take_23 rfl (lv_at hl 0 rfl) ?_
      refine lv_dup hx hb d_SE_take_24 rfl ?_
      refine gf_SE_21 hc hw d_SE_take_25 (v := .int (nI ct)) (congrArg Value.int ((u2_h (by decide)).trans (h3))) ?_
      refine lv_iconst (v := nI 1) hx hb d_SE_take_28 (by decide) ?_
      refine q_iadd hc d_SE_take_29 ?_
      refine pf_SE_21 hc hw d_SE_take_30 (fun H locs hw => ?_)
      exact W_v hc hw hr hlocks (⟨rfl, rfl, rfl⟩) d_SE_take_33
set_option maxHeartbeats 4000000 in
theorem c_SE_fill (l : Launch) (D : va_G) (g : wG) (F : wF) (nn : Nat → Int32) (ct z : Nat) (ge : Nat → Nat) (h3 : F 19 3 = nI ct) (h6 : ct ≤ 6) (hn : ∀ i, i < ct → F 20 i = nn i) (hz : z < 2 ^ ct) (hz1 : 1 ≤ z) (hT : TB nn ct ge F z) : CW l y_SE_fill b_SE_fill 6 (Option.none) 1 0 0 D g F [.ref (wad g 19), .int (nI z)] (fun v g2 u => v = none ∧ g = g2 ∧ ∃ f, FM nn ct (Nat.testBit z) f ∧ f ≤ z ∧ u = u2 (u2 F 21 z (mk nn ct z)) 22 z (nI f)) := by
  refine CW.start rfl (Nat.le_of_ble_eq_true rfl) ?_
  intro p e s m args below meth c A ls hc hr hlocks hw hl
  have hl : lv_has ls 6 [(0, .ref (wad g 19)), (1, .int (nI z))] := hl
  have hx := hc.1
  have hb := hc.2.1
  have hp2 := pw6 h6
  refine lv_iconst (v := nI 0) hx hb d_SE_fill_0 (by decide) ?_
  refine lv_istore_n (lv' := [(2, .int (nI 0)), (0, .ref (wad g 19)), (1, .int (nI z))]) hx hb d_SE_fill_1 rfl hl (by decide) rfl (fun ls hl => ?_)
  refine lv_iconst (v := nI 0) hx hb d_SE_fill_2 (by decide) ?_
  refine lv_istore_n (lv' := [(3, .int (nI 0)), (2, .int (nI 0)), (0, .ref (wad g 19)), (1, .int (nI z))]) hx hb d_SE_fill_3 rfl hl (by decide) rfl (fun ls hl => ?_)
  refine lv_iconst (v := nI 0) hx hb d_SE_fill_4 (by decide) ?_
  refine lv_istore (lv' := [(4, .int (nI 0)), (3, .int (nI 0)), (2, .int (nI 0)), (0, .ref (wad g 19)), (1, .int (nI z))]) hx hb d_SE_fill_5 hl (by decide) rfl (fun ls hl => ?_)
  have loop_7 : ∀ (n_7 : Nat) (pj b : Nat) (sm : Int32)  (H : Heap) (locs : List Loc) (ls : Array Slot), (ct - pj) < n_7 → (pj ≤ ct) → (b ≤ 63) → (∀ q, q < pj → z.testBit q = true → ge (z - 2 ^ q) ≤ b) → (b = 0 ∨ ∃ q, q < pj ∧ z.testBit q = true ∧ ge (z - 2 ^ q) = b) → ((∃ q, q < pj ∧ z.testBit q = true) → sm = mk nn ct z) → Wd D g F A s.heap H locs s → lv_has ls 6 [(0, .ref (wad g 19)), (1, .int (nI z)), (2, .int (nI b)), (3, .int sm), (4, .int (nI pj))] → W p l e (rmc 1 0 0) s m args below meth c H locs 0 0 (MQ below (Qw (fun v g2 u => v = none ∧ g = g2 ∧ ∃ f, FM nn ct (Nat.testBit z) f ∧ f ≤ z ∧ u = u2 (u2 F 21 z (mk nn ct z)) 22 z (nI f)) (Bw D A) A) args s 0 0 A) (F0 m 7 ls []) := by
    intro n_7
    induction n_7 with
    | zero => intro pj b sm  H locs ls hm; exact absurd hm (Nat.not_lt_zero _)
    | succ n_7 ih_7 =>
      intro pj b sm  H locs ls hm_7 hpj hb63 hm1 hm2 zhsm hw hl
      have hp3 := pw6 (show pj ≤ 6 by omega)
      refine lv_iload hx hb d_SE_fill_7 (lv_at hl 4 rfl) ?_
      refine lv_aload_n hx hb d_SE_fill_9 rfl (lv_at hl 0 rfl) ?_
      refine gf_SE_21 hc hw d_SE_fill_10 (v := .int (nI ct)) (congrArg Value.int (h3)) ?_
      refine q_icmp_ge (tgt := 67) hc (by omega) (by omega) d_SE_fill_13 (by decide) (fun c_1 => ?_) (fun c_1 => ?_)
      · have hsm2 : sm = mk nn ct z := zhsm (by obtain ⟨q, a1, a2⟩ := b_nz z (by omega) hz1; exact ⟨q, by have := b_hi ct (by omega) z hz q a1 a2; omega, a2⟩)
        obtain ⟨hff, hfz⟩ := fill_fm h6 hz hz1 (fun w hw => (hT w hw).2.2) (fun q hq => hm1 q (by omega)) (by rcases hm2 with h | ⟨q, a1, a2, a3⟩; exact Or.inl h; exact Or.inr ⟨q, by omega, a2, a3⟩)
        refine lv_aload_n hx hb d_SE_fill_67 rfl (lv_at hl 0 rfl) ?_
        refine gf_SE_15 hc hw d_SE_fill_68 ?_
        refine lv_iload_n hx hb d_SE_fill_71 rfl (lv_at hl 1 rfl) ?_
        refine lv_iload_n hx hb d_SE_fill_72 rfl (lv_at hl 3 rfl) ?_
        refine r_iast hc hw (h := 21) (n := 64) (i := z) (fun _ => rfl) (by omega) (by omega) (by decide) d_SE_fill_73 (fun H locs hw => ?_)
        refine lv_aload_n hx hb d_SE_fill_74 rfl (lv_at hl 0 rfl) ?_
        refine gf_SE_18 hc hw d_SE_fill_75 ?_
        refine lv_iload_n hx hb d_SE_fill_78 rfl (lv_at hl 1 rfl) ?_
        refine lv_iload_n hx hb d_SE_fill_79 rfl (lv_at hl 3 rfl) ?_
        refine u_if_ne (tgt := 89) (X := (sm).toInt) hc (rfl) d_SE_fill_80 (by decide) (fun c_2 => ?_) (fun c_2 => ?_)
        · rw [if_neg (by rw [← hsm2]; exact fun h => c_2 (i_z.mpr h))] at hff
          refine lv_iload_n hx hb d_SE_fill_89 rfl (lv_at hl 2 rfl) ?_
          refine r_iast hc hw (h := 22) (n := 64) (i := z) (fun _ => rfl) (by omega) (by omega) (by decide) d_SE_fill_90 (fun H locs hw => ?_)
          exact W_v hc hw hr hlocks (by rw [hsm2]; exact ⟨rfl, rfl, b, hff, by omega, rfl⟩) d_SE_fill_91
        · rw [if_pos (by rw [← hsm2]; exact i_z.mp c_2)] at hff
          refine lv_iload_n hx hb d_SE_fill_83 rfl (lv_at hl 2 rfl) ?_
          refine lv_iconst (v := nI 1) hx hb d_SE_fill_84 (by decide) ?_
          refine q_iadd hc d_SE_fill_85 ?_
          refine lv_goto (tgt := 90) hx hb d_SE_fill_86 (by decide) ?_
          refine r_iast hc hw (h := 22) (n := 64) (i := z) (fun _ => rfl) (by omega) (by omega) (by decide) d_SE_fill_90 (fun H locs hw => ?_)
          exact W_v hc hw hr hlocks (by rw [hsm2]; exact ⟨rfl, rfl, b + 1, hff, by omega, rfl⟩) d_SE_fill_91
      · refine lv_iconst (v := nI 1) hx hb d_SE_fill_16 (by decide) ?_
        refine lv_iload hx hb d_SE_fill_17 (lv_at hl 4 rfl) ?_
        refine lv_ishl hx hb d_SE_fill_19 ?_
        rw [b_shl (pj) (by omega)]
        refine lv_istore (lv' := [(5, .int (nI (2 ^ pj))), (0, .ref (wad g 19)), (1, .int (nI z)), (2, .int (nI b)), (3, .int sm), (4, .int (nI pj))]) hx hb d_SE_fill_20 hl (by decide) rfl (fun ls hl => ?_)
        refine lv_iload_n hx hb d_SE_fill_22 rfl (lv_at hl 2 rfl) ?_
        refine lv_iload hx hb d_SE_fill_23 (lv_at hl 0 rfl) ?_
        refine lv_iand hx hb d_SE_fill_25 ?_
        rw [b_and2 pj (by omega) z (by omega)]
        by_cases hbt : z.testBit pj = true
        · rw [if_pos hbt]
          refine q_if_eq (tgt := 61) hc (by omega) d_SE_fill_26 (by decide) (fun c_3 => ?_) (fun c_3 => ?_)
          · exact absurd c_3 (by omega)
          · have hx9 := (b_xor pj (by omega) z (by omega) hbt).2
            have hge := (hT (z - 2 ^ pj) (by omega)).2.2.2
            refine lv_iload_n hx hb d_SE_fill_29 rfl (lv_at hl 3 rfl) ?_
            refine lv_aload_n hx hb d_SE_fill_30 rfl (lv_at hl 1 rfl) ?_
            refine gf_SE_18 hc hw d_SE_fill_31 ?_
            refine lv_iload_n hx hb d_SE_fill_34 rfl (lv_at hl 2 rfl) ?_
            refine lv_iload hx hb d_SE_fill_35 (lv_at hl 0 rfl) ?_
            refine lv_ixor hx hb d_SE_fill_37 ?_
            rw [(b_xor pj (by omega) z (by omega) hbt).1]
            refine r_iald hc hw (h := 22) (n := 64) (i := z - 2 ^ pj) (fun _ => rfl) (by omega) (by omega) (by decide) d_SE_fill_38 (v := .int (nI (ge (z - 2 ^ pj)))) (congrArg Value.int (hT (z - 2 ^ pj) (by omega)).2.1) ?_
            refine r_max hc (x := b) (y := ge (z - 2 ^ pj)) (rest := []) (by omega) (by omega) hl (Nat.le_of_ble_eq_true rfl) (Nat.le_of_ble_eq_true rfl) (Nat.le_refl _) (Nat.le_refl _) d_SE_fill_39 ?_
            have hmx := mx2_le b (ge (z - 2 ^ pj))
            refine lv_istore_n (lv' := [(2, .int (nI (mx2 b (ge (z - 2 ^ pj))))), (5, .int (nI (2 ^ pj))), (0, .ref (wad g 19)), (1, .int (nI z)), (3, .int sm), (4, .int (nI pj))]) hx hb d_SE_fill_42 rfl hl (by decide) rfl (fun ls hl => ?_)
            refine lv_aload_n hx hb d_SE_fill_43 rfl (lv_at hl 2 rfl) ?_
            refine gf_SE_15 hc hw d_SE_fill_44 ?_
            refine lv_iload_n hx hb d_SE_fill_47 rfl (lv_at hl 3 rfl) ?_
            refine lv_iload hx hb d_SE_fill_48 (lv_at hl 1 rfl) ?_
            refine lv_ixor hx hb d_SE_fill_50 ?_
            rw [(b_xor pj (by omega) z (by omega) hbt).1]
            refine r_iald hc hw (h := 21) (n := 64) (i := z - 2 ^ pj) (fun _ => rfl) (by omega) (by omega) (by decide) d_SE_fill_51 (v := .int (mk nn ct (z - 2 ^ pj))) (congrArg Value.int (hT (z - 2 ^ pj) (by omega)).1) ?_
            refine lv_aload_n hx hb d_SE_fill_52 rfl (lv_at hl 2 rfl) ?_
            refine gf_SE_9 hc hw d_SE_fill_53 ?_
            refine lv_iload hx hb d_SE_fill_56 (lv_at hl 5 rfl) ?_
            refine r_iald hc hw (h := 20) (n := 6) (i := pj) (fun _ => rfl) (by omega) (by omega) (by decide) d_SE_fill_58 (v := .int (nn pj)) (congrArg Value.int (hn pj (by omega))) ?_
            refine lv_iadd hx hb d_SE_fill_59 ?_
            refine lv_istore_n (lv' := [(3, .int ((mk nn ct (z - 2 ^ pj)) + (nn pj))), (2, .int (nI (mx2 b (ge (z - 2 ^ pj))))), (5, .int (nI (2 ^ pj))), (0, .ref (wad g 19)), (1, .int (nI z)), (4, .int (nI pj))]) hx hb d_SE_fill_60 rfl hl (by decide) rfl (fun ls hl => ?_)
            refine lv_iinc (v := nI (pj + 1)) (lv' := [(4, .int (nI (pj + 1))), (3, .int ((mk nn ct (z - 2 ^ pj)) + (nn pj))), (2, .int (nI (mx2 b (ge (z - 2 ^ pj))))), (5, .int (nI (2 ^ pj))), (0, .ref (wad g 19)), (1, .int (nI z))]) hx hb d_SE_fill_61 hl (k := 5) rfl (nI_inc1 _) (by decide) rfl (fun ls hl => ?_)
            refine lv_goto (tgt := 7) hx hb d_SE_fill_64 (by decide) ?_
            exact ih_7 (pj + 1) (mx2 b (ge (z - 2 ^ pj))) (mk nn ct (z - 2 ^ pj) + nn pj) _ _ _ (by clear hm2 zhsm; omega) (by omega) (by omega) (fun q hq zhq2 => by rcases (show q < pj ∨ q = pj by omega) with e9 | e9; exact Nat.le_trans (hm1 q e9 zhq2) hmx.1; (subst e9; exact hmx.2.1)) (by rcases hmx.2.2 with e9 | e9; (rw [e9]; rcases hm2 with h | ⟨q, a1, a2, a3⟩; exact Or.inl h; exact Or.inr ⟨q, by omega, a2, a3⟩); (rw [e9]; exact Or.inr ⟨pj, by omega, hbt, rfl⟩)) (fun _ => mk_rm h6 (by omega) (by omega) hbt) hw (lv_sub hl [4, 5, 2, 1, 0] rfl)
        · rw [if_neg hbt]
          refine q_if_eq (tgt := 61) hc (by omega) d_SE_fill_26 (by decide) (fun c_4 => ?_) (fun c_4 => ?_)
          · refine lv_iinc (v := nI (pj + 1)) (lv' := [(4, .int (nI (pj + 1))), (5, .int (nI (2 ^ pj))), (0, .ref (wad g 19)), (1, .int (nI z)), (2, .int (nI b)), (3, .int sm)]) hx hb d_SE_fill_61 hl (k := 5) rfl (nI_inc1 _) (by decide) rfl (fun ls hl => ?_)
            refine lv_goto (tgt := 7) hx hb d_SE_fill_64 (by decide) ?_
            exact ih_7 (pj + 1) b sm _ _ _ (by clear hm2 zhsm; omega) (by omega) (by omega) (fun q hq zhq2 => by rcases (show q < pj ∨ q = pj by omega) with e9 | e9; exact hm1 q e9 zhq2; (subst e9; exact absurd zhq2 hbt)) (by rcases hm2 with h | ⟨q, a1, a2, a3⟩; exact Or.inl h; exact Or.inr ⟨q, by omega, a2, a3⟩) (fun h => zhsm (by obtain ⟨q, a1, a2⟩ := h; rcases (show q < pj ∨ q = pj by omega) with e9 | e9; exact ⟨q, e9, a2⟩; (subst e9; exact absurd a2 hbt))) hw (lv_sub hl [2, 3, 4, 5, 0] rfl)
          · exact absurd c_4 (by first | omega | decide)
  exact loop_7 _ 0 0 (nI 0) _ _ _ (Nat.lt_succ_self _) (by omega) (by omega) (fun q hq => absurd hq (Nat.not_lt_zero q)) (Or.inl rfl) (fun h => by obtain ⟨q, hq, _⟩ := h; exact absurd hq (Nat.not_lt_zero q)) hw (lv_sub hl [3, 4, 2, 1, 0] rfl)
set_option maxHeartbeats 4000000 in
theorem c_SE_fewestPayments (l : Launch) (D : va_G) (g : wG) (F : wF) (nn : Nat → Int32) (ct : Nat) (h3 : F 19 3 = nI ct) (h6 : ct ≤ 6) (hn : ∀ i, i < ct → F 20 i = nn i) (h21 : F 21 0 = 0) (h22 : F 22 0 = 0) : CW l y_SE_fewestPayments b_SE_fewestPayments 3 (Option.some Jvm.ClassFile.FieldType.int) 2 0 0 D g F [.ref (wad g 19)] (fun v g2 u => g = g2 ∧ (∃ f, FM nn ct (fun _ => true) f ∧ v = some (.int (nI ct - nI f))) ∧ (∀ k i, k ≠ 21 → k ≠ 22 → u k i = F k i) ∧ u 21 0 = 0 ∧ u 22 0 = 0) := by
  refine CW.start rfl (Nat.le_of_ble_eq_true rfl) ?_
  intro p e s m args below meth c A ls hc hr hlocks hw hl
  have hl : lv_has ls 3 [(0, .ref (wad g 19))] := hl
  have hx := hc.1
  have hb := hc.2.1
  have hp2 := pw6 h6
  refine lv_iconst (v := nI 1) hx hb d_SE_fewestPayments_0 (by decide) ?_
  refine lv_aload_n hx hb d_SE_fewestPayments_1 rfl (lv_at hl 0 rfl) ?_
  refine gf_SE_21 hc hw d_SE_fewestPayments_2 (v := .int (nI ct)) (congrArg Value.int (h3)) ?_
  refine lv_ishl hx hb d_SE_fewestPayments_5 ?_
  rw [b_shl (ct) (by omega)]
  refine lv_istore_n (lv' := [(1, .int (nI (2 ^ ct))), (0, .ref (wad g 19))]) hx hb d_SE_fewestPayments_6 rfl hl (by decide) rfl (fun ls hl => ?_)
  refine lv_iconst (v := nI 1) hx hb d_SE_fewestPayments_7 (by decide) ?_
  refine lv_istore_n (lv' := [(2, .int (nI 1)), (1, .int (nI (2 ^ ct))), (0, .ref (wad g 19))]) hx hb d_SE_fewestPayments_8 rfl hl (by decide) rfl (fun ls hl => ?_)
  have loop_9 : ∀ (n_9 : Nat) (z : Nat) (ge : Nat → Nat) (F1 : wF) (H : Heap) (locs : List Loc) (ls : Array Slot), (2 ^ ct - z) < n_9 → (1 ≤ z) → (z ≤ 2 ^ ct) → (TB nn ct ge F1 z) → (∀ k i, k ≠ 21 → k ≠ 22 → F1 k i = F k i) → Wd D g F1 A s.heap H locs s → lv_has ls 3 [(0, .ref (wad g 19)), (1, .int (nI (2 ^ ct))), (2, .int (nI z))] → W p l e (rmc 2 0 0) s m args below meth c H locs 0 0 (MQ below (Qw (fun v g2 u => g = g2 ∧ (∃ f, FM nn ct (fun _ => true) f ∧ v = some (.int (nI ct - nI f))) ∧ (∀ k i, k ≠ 21 → k ≠ 22 → u k i = F k i) ∧ u 21 0 = 0 ∧ u 22 0 = 0) (Bw D A) A) args s 0 0 A) (F0 m 9 ls []) := by
    intro n_9
    induction n_9 with
    | zero => intro z ge F1 H locs ls hm; exact absurd hm (Nat.not_lt_zero _)
    | succ n_9 ih_9 =>
      intro z ge F1 H locs ls hm_9 hz1 hz hT zhF1 hw hl
      refine lv_iload_n hx hb d_SE_fewestPayments_9 rfl (lv_at hl 2 rfl) ?_
      refine lv_iload_n hx hb d_SE_fewestPayments_10 rfl (lv_at hl 1 rfl) ?_
      refine q_icmp_ge (tgt := 25) hc (by omega) (by omega) d_SE_fewestPayments_11 (by decide) (fun c_1 => ?_) (fun c_1 => ?_)
      · refine lv_aload_n hx hb d_SE_fewestPayments_25 rfl (lv_at hl 0 rfl) ?_
        refine gf_SE_21 hc hw d_SE_fewestPayments_26 (v := .int (nI ct)) (congrArg Value.int ((zhF1 19 3 (by decide) (by decide)).trans h3)) ?_
        refine lv_aload_n hx hb d_SE_fewestPayments_29 rfl (lv_at hl 0 rfl) ?_
        refine gf_SE_18 hc hw d_SE_fewestPayments_30 ?_
        refine lv_iload_n hx hb d_SE_fewestPayments_33 rfl (lv_at hl 1 rfl) ?_
        refine lv_iconst (v := nI 1) hx hb d_SE_fewestPayments_34 (by decide) ?_
        refine q_isub hc (by omega) d_SE_fewestPayments_35 ?_
        refine r_iald hc hw (h := 22) (n := 64) (i := (2 ^ ct) - 1) (fun _ => rfl) (by omega) (by omega) (by decide) d_SE_fewestPayments_36 (v := .int (nI (ge (2 ^ ct - 1)))) (congrArg Value.int (hT (2 ^ ct - 1) (by omega)).2.1) ?_
        refine lv_isub hx hb d_SE_fewestPayments_37 ?_
        exact W_i hc hw hr hlocks (⟨rfl, ⟨ge (2 ^ ct - 1), FM_c (fun q hq => b_full ct (by omega) q hq) (hT (2 ^ ct - 1) (by omega)).2.2.1, rfl⟩, zhF1, (hT 0 (by omega)).1.trans (sX_0 ct (fun q _ => Nat.zero_testBit q)), (hT 0 (by omega)).2.1.trans (by have h9 := (hT 0 (by omega)).2.2.2; rw [show ge 0 = 0 by omega]; exact nI_0)⟩) d_SE_fewestPayments_38
      · refine lv_aload_n hx hb d_SE_fewestPayments_14 rfl (lv_at hl 0 rfl) ?_
        refine lv_iload_n hx hb d_SE_fewestPayments_15 rfl (lv_at hl 2 rfl) ?_
        refine kWV hc hw lk_SE_25 (h := 19) (As := [.int (nI z)]) (rest := []) (c_SE_fill l D g _ nn ct z ge ((zhF1 19 3 (by decide) (by decide)).trans h3) h6 (fun i hi => (zhF1 20 i (by decide) (by decide)).trans (hn i hi)) (by omega) (by omega) hT) (rc_SE hw) ⟨Nat.le_of_ble_eq_true rfl, Nat.le_of_ble_eq_true rfl⟩ ⟨Nat.le_refl _, Nat.le_refl _⟩ rfl hl rfl (Nat.le_of_ble_eq_true rfl) d_SE_fewestPayments_16 (fun v_2 g_3 F_4 H locs zhp_5 hw => ?_)
        obtain ⟨rfl, rfl, f9, hf1, hf2, hf3⟩ := zhp_5
        refine lv_iinc (v := nI (z + 1)) (lv' := [(2, .int (nI (z + 1))), (0, .ref (wad g 19)), (1, .int (nI (2 ^ ct)))]) hx hb d_SE_fewestPayments_19 hl (k := 2) rfl (nI_inc1 _) (by decide) rfl (fun ls hl => ?_)
        refine lv_goto (tgt := 9) hx hb d_SE_fewestPayments_22 (by decide) ?_
        exact ih_9 (z + 1) (fun w => if w = z then f9 else ge w) _ _ _ _ (by omega) (by omega) (by omega) (fun w hw => by show _ = _ ∧ _ = nI (if w = z then f9 else ge w) ∧ FM _ _ _ (if w = z then f9 else ge w) ∧ (if w = z then f9 else ge w) ≤ w; rcases (show w < z ∨ w = z by omega) with e9 | e9; (rw [if_neg (by omega), hf3, u2_h (by decide), u2_i (by omega), u2_i (by omega)]; exact hT w e9); (rw [if_pos e9, e9, hf3]; exact ⟨(u2_h (by decide)).trans (u2_same _ _ _ _), u2_same _ _ _ _, hf1, hf2⟩)) (fun k i h1 h2 => by rw [hf3, u2_h h2, u2_h h1]; exact zhF1 k i h1 h2) hw (lv_sub hl [1, 2, 0] rfl)
  exact loop_9 _ 1 (fun _ => 0) _ _ _ _ (Nat.lt_succ_self _) (by omega) (by omega) (fun w hw => by have e9 : w = 0 := (by omega); subst e9; exact ⟨h21.trans (sX_0 ct (fun q _ => Nat.zero_testBit q)).symm, h22.trans nI_0.symm, FM_0 (fun q _ => Nat.zero_testBit q), Nat.le_refl _⟩) (fun _ _ _ _ => rfl) hw (lv_sub hl [2, 1, 0] rfl)
set_option maxHeartbeats 4000000 in
theorem c_AP_settled (l : Launch) (D : va_G) (g : wG) (F : wF) (pc : Nat) (lf : Nat → Nat) (lw : Nat) (cn : Nat) (fr to hv dy : Nat → Nat) (an af : Nat → Option Nat) (ln : Nat → Option Nat) (sz : Nat → Nat) (ce : Nat → Nat → Int32) (tr ft : Int32) (hG : GI g (pc, lf) lw (cn, fr, to, hv, dy, an, af) (ln, sz, ce)) (hC : CI g F (pc, lf) lw (cn, fr, to, hv, dy, an, af) (ln, sz, ce) tr ft) (zp0 : Int32) : CW l y_AP_settled b_AP_settled 3 (Option.some Jvm.ClassFile.FieldType.int) 3 0 0 D g F [.ref (wad g 0), .int zp0] (fun v g2 u => v = some (.int (s_settled (wK g) (pc, lf) (cn, fr, to, hv, dy, an, af) zp0)) ∧ g = g2 ∧ CI g u (pc, lf) lw (cn, fr, to, hv, dy, an, af) (ln, sz, ce) tr ft ∧ FrO 0 57 F u) := by
  refine CW.start rfl (Nat.le_of_ble_eq_true rfl) ?_
  intro p e s m args below meth c A ls hc hr hlocks hw hl
  have hl : lv_has ls 3 [(0, .ref (wad g 0)), (1, .int zp0)] := hl
  have hx := hc.1
  have hb := hc.2.1
  obtain ⟨hpc6, hpcm, hm6, hpcq, hper⟩ : PI g pc lf := hG.1
  have hlw : lw ≤ 2 := hG.2.1
  have hI : LI pc cn fr to hv dy an af := hG.2.2.1
  have hcn := hI.1
  have hSI : SI ln sz := hG.2.2.2
  have hPC : PC F pc lf := hC.1
  have hL : LC g F cn fr to hv dy an af := hC.2.2.1
  have hSC : SC F ln sz ce := hC.2.2.2.1
  refine lv_iload_n hx hb d_AP_settled_0 rfl (lv_at hl 1 rfl) ?_
  refine kRS hc hw lk_AP_113 (As := [.int zp0]) (rest := []) (c_AP_isDay l D g _ (zp0)) ⟨Nat.le_of_ble_eq_true rfl, Nat.le_of_ble_eq_true rfl⟩ ⟨Nat.le_refl _, Nat.le_refl _⟩ rfl hl rfl (Nat.le_of_ble_eq_true rfl) d_AP_settled_1 ?_
  refine b_if_ne (tgt := 10) hc d_AP_settled_4 (by decide) (fun c_1 => ?_) (fun c_1 => ?_)
  · obtain ⟨zj0, rfl, zj0_1, zj0_2⟩ := rng_nat c_1 (by decide)
    have zj0_e := nI_tI (j := zj0) (by omega)
    have zj0_t := tn_nI (j := zj0) (by omega)
    try unfold rng at c_1
    refine lv_aload_n hx hb d_AP_settled_10 rfl (lv_at hl 0 rfl) ?_
    refine gf_AP_93 hc hw d_AP_settled_11 (v := .int (nI pc)) (congrArg Value.int (hPC.1)) ?_
    refine q_if_ne (tgt := 20) hc (by omega) d_AP_settled_14 (by decide) (fun c_2 => ?_) (fun c_2 => ?_)
    · have hpc0 : ¬ pc = 0 := c_2
      refine lv_aload_n hx hb d_AP_settled_20 rfl (lv_at hl 0 rfl) ?_
      refine gf_AP_34 hc hw d_AP_settled_21 ?_
      refine kWV hc hw lk_AP_174 (h := 19) (As := []) (rest := []) (c_SE_clear l D g _) (rc_SE hw) ⟨Nat.le_of_ble_eq_true rfl, Nat.le_of_ble_eq_true rfl⟩ ⟨Nat.le_refl _, Nat.le_refl _⟩ rfl hl rfl (Nat.le_of_ble_eq_true rfl) d_AP_settled_24 (fun v_3 g_4 F_5 H locs zhp_6 hw => ?_)
      obtain ⟨rfl, rfl, rfl⟩ := zhp_6
      refine lv_iconst (v := nI 0) hx hb d_AP_settled_27 (by decide) ?_
      refine lv_istore_n (lv' := [(2, .int (nI 0)), (0, .ref (wad g 0)), (1, .int (nI zj0))]) hx hb d_AP_settled_28 rfl hl (by decide) rfl (fun ls hl => ?_)
      have loop_29 : ∀ (n_29 : Nat) (pj : Nat) (F1 : wF) (H : Heap) (locs : List Loc) (ls : Array Slot), (pc - pj) < n_29 → (pj ≤ pc) → (F1 19 3 = nI (cz (nnS (wK g) (cn, fr, to, hv, dy, an, af) zj0) pj)) → (NT (nnS (wK g) (cn, fr, to, hv, dy, an, af) zj0) (F1 20) pj) → (∀ k i, ¬ (k = 19 ∧ i = 3) → k ≠ 20 → F1 k i = F k i) → Wd D g F1 A s.heap H locs s → lv_has ls 3 [(0, .ref (wad g 0)), (1, .int (nI zj0)), (2, .int (nI pj))] → W p l e (rmc 3 0 0) s m args below meth c H locs 0 0 (MQ below (Qw (fun v g2 u => v = some (.int (s_settled (wK g) (pc, lf) (cn, fr, to, hv, dy, an, af) (nI zj0))) ∧ g = g2 ∧ CI g u (pc, lf) lw (cn, fr, to, hv, dy, an, af) (ln, sz, ce) tr ft ∧ FrO 0 57 F u) (Bw D A) A) args s 0 0 A) (F0 m 29 ls []) := by
        intro n_29
        induction n_29 with
        | zero => intro pj F1 H locs ls hm; exact absurd hm (Nat.not_lt_zero _)
        | succ n_29 ih_29 =>
          intro pj F1 H locs ls hm_29 hpj hct hnt zhF1 hw hl
          have hczl := cz_le (nn := (nnS (wK g) (cn, fr, to, hv, dy, an, af) zj0)) pj
          refine lv_iload_n hx hb d_AP_settled_29 rfl (lv_at hl 2 rfl) ?_
          refine lv_aload_n hx hb d_AP_settled_30 rfl (lv_at hl 0 rfl) ?_
          refine gf_AP_93 hc hw d_AP_settled_31 (v := .int (nI pc)) (congrArg Value.int ((zhF1 0 7 (by decide) (by decide)).trans hPC.1)) ?_
          refine q_icmp_ge (tgt := 59) hc (by omega) (by omega) d_AP_settled_34 (by decide) (fun c_7 => ?_) (fun c_7 => ?_)
          · have hpe : pj = pc := by omega
            rw [hpe] at hct hnt
            refine lv_aload_n hx hb d_AP_settled_59 rfl (lv_at hl 0 rfl) ?_
            refine gf_AP_34 hc hw d_AP_settled_60 ?_
            refine kWV hc hw lk_AP_180 (h := 19) (As := []) (rest := []) (c_SE_fewestPayments l D g _ (F1 20) (cz (nnS (wK g) (cn, fr, to, hv, dy, an, af) zj0) pc) hct (Nat.le_trans (cz_le _) hpc6) (fun _ _ => rfl) ((zhF1 21 0 (by decide) (by decide)).trans hC.2.2.2.2.2.2.1) ((zhF1 22 0 (by decide) (by decide)).trans hC.2.2.2.2.2.2.2)) (rc_SE hw) ⟨Nat.le_of_ble_eq_true rfl, Nat.le_of_ble_eq_true rfl⟩ ⟨Nat.le_refl _, Nat.le_refl _⟩ rfl hl rfl (Nat.le_of_ble_eq_true rfl) d_AP_settled_63 (fun v_8 g_9 F_10 H locs zhp_11 hw => ?_)
            obtain ⟨rfl, ⟨f9, hf1, rfl⟩, zhF2, hu21, hu22⟩ := zhp_11
            exact W_i hc hw hr hlocks (by refine ⟨congrArg (fun z => some (Value.int z)) ?_, rfl, CI_x hC (fun k hk => funext fun i => (zhF2 k i (by omega) (by omega)).trans (zhF1 k i (by omega) (by omega))) hu21 hu22, fun k hk => funext fun i => (zhF2 k i (by omega) (by omega)).trans (zhF1 k i (by omega) (by omega))⟩; unfold s_settled; rw [if_pos (by simp only [rng]; omega), if_neg hpc0, zj0_t, mx_class hnt (nn_tot hI zj0) (fun _ _ => rfl) hf1]) d_AP_settled_66
          · refine lv_aload_n hx hb d_AP_settled_37 rfl (lv_at hl 0 rfl) ?_
            refine gf_AP_34 hc hw d_AP_settled_38 ?_
            refine lv_aload_n hx hb d_AP_settled_41 rfl (lv_at hl 0 rfl) ?_
            refine gf_AP_27 hc hw d_AP_settled_42 ?_
            refine lv_iload_n hx hb d_AP_settled_45 rfl (lv_at hl 2 rfl) ?_
            refine lv_iload_n hx hb d_AP_settled_46 rfl (lv_at hl 1 rfl) ?_
            refine kRV hc hw lk_AP_169 (As := [.int (nI pj), .int (nI zj0)]) (rest := [.ref (wad g 19)]) (c_LE_netOf l D g _ pc cn fr to hv dy an af hI (LC_c hL (fun k hk hk2 => funext fun i => zhF1 k i (by omega) (by omega))) pj zj0 hpc6 (by omega) (by omega)) (rc_LE hw) ⟨Nat.le_of_ble_eq_true rfl, Nat.le_of_ble_eq_true rfl⟩ ⟨Nat.le_refl _, Nat.le_refl _⟩ rfl hl rfl (Nat.le_of_ble_eq_true rfl) d_AP_settled_47 ?_
            rw [show ntS pj zj0 fr to dy an (lsc g fr hv) cn = (nnS (wK g) (cn, fr, to, hv, dy, an, af) zj0) pj from rfl]
            by_cases hz0 : (nnS (wK g) (cn, fr, to, hv, dy, an, af) zj0) pj = 0
            · refine kWV hc hw lk_AP_177 (h := 19) (As := [.int ((nnS (wK g) (cn, fr, to, hv, dy, an, af) zj0) pj)]) (rest := []) (c_SE_take_0 l D g _ (cz (nnS (wK g) (cn, fr, to, hv, dy, an, af) zj0) pj) hct ((nnS (wK g) (cn, fr, to, hv, dy, an, af) zj0) pj) hz0) (rc_SE hw) ⟨Nat.le_of_ble_eq_true rfl, Nat.le_of_ble_eq_true rfl⟩ ⟨Nat.le_refl _, Nat.le_refl _⟩ rfl hl rfl (Nat.le_of_ble_eq_true rfl) d_AP_settled_50 (fun v_12 g_13 F_14 H locs zhp_15 hw => ?_)
              obtain ⟨rfl, rfl, he9⟩ := zhp_15
              rw [he9] at hw
              refine lv_iinc (v := nI (pj + 1)) (lv' := [(2, .int (nI (pj + 1))), (0, .ref (wad g 0)), (1, .int (nI zj0))]) hx hb d_AP_settled_53 hl (k := 2) rfl (nI_inc1 _) (by decide) rfl (fun ls hl => ?_)
              refine lv_goto (tgt := 29) hx hb d_AP_settled_56 (by decide) ?_
              exact ih_29 (pj + 1) _ _ _ _ (by omega) (by omega) (hct.trans (congrArg nI (cz_z hz0).symm)) (fun q hq h => by rcases (show q < pj ∨ q = pj by omega) with e9 | e9; exact hnt q e9 h; (subst e9; exact absurd hz0 h)) (zhF1) hw (lv_sub hl [1, 2, 0] rfl)
            · refine kWV hc hw lk_AP_177 (h := 19) (As := [.int ((nnS (wK g) (cn, fr, to, hv, dy, an, af) zj0) pj)]) (rest := []) (c_SE_take_1 l D g _ (cz (nnS (wK g) (cn, fr, to, hv, dy, an, af) zj0) pj) hct (by omega) ((nnS (wK g) (cn, fr, to, hv, dy, an, af) zj0) pj) hz0) (rc_SE hw) ⟨Nat.le_of_ble_eq_true rfl, Nat.le_of_ble_eq_true rfl⟩ ⟨Nat.le_refl _, Nat.le_refl _⟩ rfl hl rfl (Nat.le_of_ble_eq_true rfl) d_AP_settled_50 (fun v_16 g_17 F_18 H locs zhp_19 hw => ?_)
              obtain ⟨rfl, rfl, he9⟩ := zhp_19
              rw [he9] at hw
              refine lv_iinc (v := nI (pj + 1)) (lv' := [(2, .int (nI (pj + 1))), (0, .ref (wad g 0)), (1, .int (nI zj0))]) hx hb d_AP_settled_53 hl (k := 2) rfl (nI_inc1 _) (by decide) rfl (fun ls hl => ?_)
              refine lv_goto (tgt := 29) hx hb d_AP_settled_56 (by decide) ?_
              exact ih_29 (pj + 1) _ _ _ _ (by omega) (by omega) ((u2_same _ _ _ _).trans (congrArg nI (cz_n hz0).symm)) (fun q hq h => by rw [u2_h (by decide)]; rcases (show q < pj ∨ q = pj by omega) with e9 | e9; (rw [u2_i (by have := cz_lt e9 h; omega)]; exact hnt q e9 h); (subst e9; exact u2_same _ _ _ _)) (fun k i h1 h2 => by rw [u2_ij2 h1, u2_h h2]; exact zhF1 k i h1 h2) hw (lv_sub hl [1, 2, 0] rfl)
      exact loop_29 _ 0 _ _ _ _ (Nat.lt_succ_self _) (by omega) (u2_same _ _ _ _) (fun q hq => absurd hq (Nat.not_lt_zero q)) (fun k i h1 _ => u2_ij2 h1) hw (lv_sub hl [1, 2, 0] rfl)
    · refine lv_bipush (v := (-3)) hx hb d_AP_settled_17 (by decide) ?_
      exact W_i hc hw hr hlocks (by refine ⟨congrArg (fun z => some (Value.int z)) ?_, rfl, hC, (by repeat (first | exact FrO.rf _ _ _ | refine FrO.up ?_ (by omega) (by omega)))⟩; unfold s_settled; (try simp only [inN, rng, zj0_t, zj0_e]); (repeat' split) <;> first | (exfalso; omega) | contradiction | rfl) d_AP_settled_19
  · try unfold rng at c_1
    refine lv_bipush (v := (-2)) hx hb d_AP_settled_7 (by decide) ?_
    exact W_i hc hw hr hlocks (by refine ⟨congrArg (fun z => some (Value.int z)) ?_, rfl, hC, (by repeat (first | exact FrO.rf _ _ _ | refine FrO.up ?_ (by omega) (by omega)))⟩; unfold s_settled; (try simp only [inN, rng]); (repeat' split) <;> first | (exfalso; omega) | contradiction | rfl) d_AP_settled_9
