/-! printed by wip/gen/meths3.py: letters -/
theorem owT_n {d : Nat} {dy : Nat → Nat} {an : Nat → Option Nat} {sc : Nat → Nat} {k : Nat} (h : an k = none) : owT d dy an sc k = if d < dy k then 0 else (d - dy k) * sc k := by unfold owT; rw [h]
theorem owT_s {d : Nat} {dy : Nat → Nat} {an : Nat → Option Nat} {sc : Nat → Nat} {k a : Nat} (h : an k = some a) : owT d dy an sc k = if d < dy k then 0 else if dy a ≤ d then 0 else (d - dy k) * sc k := by unfold owT; rw [h]
theorem lsc_le {pc cn : Nat} {g : wG} {fr to hv dy : Nat → Nat} {an af : Nat → Option Nat} (hI : LI pc cn fr to hv dy an af) : ∀ k, k < cn → lsc g fr hv k ≤ 151 := fun k hk => shw_le (hI.2 k hk).1.2.2.2.2.1
set_option maxHeartbeats 4000000 in
theorem c_LE_isAnswered (l : Launch) (D : va_G) (g : wG) (F : wF) (pc cn : Nat) (fr to hv dy : Nat → Nat) (an af : Nat → Option Nat) (hI : LI pc cn fr to hv dy an af) (hL : LC g F cn fr to hv dy an af) (k : Nat) (hk : k < cn) : CR l y_LE_isAnswered b_LE_isAnswered 2 (Option.some Jvm.ClassFile.FieldType.boolean) 1 D g F [.ref (wad g 11), .int (nI k)] (.int (bI ((an k).isSome = true))) := by
  refine CR.start rfl (Nat.le_of_ble_eq_true rfl) ?_
  intro p e s m args below meth c A ls hc hr hlocks hw hl
  have hl : lv_has ls 2 [(0, .ref (wad g 11)), (1, .int (nI k))] := hl
  have hx := hc.1
  have hb := hc.2.1
  have hcn := hI.1
  refine lv_aload_n hx hb d_LE_isAnswered_0 rfl (lv_at hl 0 rfl) ?_
  refine lv_aload_n hx hb d_LE_isAnswered_1 rfl (lv_at hl 0 rfl) ?_
  refine gf_LE_27 hc hw d_LE_isAnswered_2 ?_
  refine lv_iload_n hx hb d_LE_isAnswered_5 rfl (lv_at hl 1 rfl) ?_
  rcases ho : an k with _ | a
  · refine r_iald hc hw (h := 17) (n := 24) (i := k) (fun _ => rfl) (by omega) (by omega) (by decide) d_LE_isAnswered_6 (v := .int ((-9))) (congrArg Value.int ((hL.2 (k) (by omega)).2.2.2.2.2.1.trans (by rw [ho]; rfl))) ?_
    refine kRV hc hw lk_LE_37 (As := [.int ((-9))]) (rest := []) (c_LE_has l D g _ cn hL.1 hI.1 ((-9))) (rc_LE hw) ⟨Nat.le_of_ble_eq_true rfl, Nat.le_of_ble_eq_true rfl⟩ ⟨Nat.le_refl _, Nat.le_refl _⟩ rfl hl rfl (Nat.le_of_ble_eq_true rfl) d_LE_isAnswered_7 ?_
    exact R_z hc hr hlocks (by first | (rw [bI_f (fun q => absurd q.1 (by decide))]; rfl) | (rw [bI_t ((inN_nI (by omega)).mpr ha1)]; rfl)) (bI_nar _) d_LE_isAnswered_10
  · obtain ⟨ha1, ha2, ha3, ha4, ha5⟩ := (hI.2 k (by omega)).2.1 a ho
    refine r_iald hc hw (h := 17) (n := 24) (i := k) (fun _ => rfl) (by omega) (by omega) (by decide) d_LE_isAnswered_6 (v := .int (nI a)) (congrArg Value.int ((hL.2 (k) (by omega)).2.2.2.2.2.1.trans (by rw [ho]; rfl))) ?_
    refine kRV hc hw lk_LE_37 (As := [.int (nI a)]) (rest := []) (c_LE_has l D g _ cn hL.1 hI.1 (nI a)) (rc_LE hw) ⟨Nat.le_of_ble_eq_true rfl, Nat.le_of_ble_eq_true rfl⟩ ⟨Nat.le_refl _, Nat.le_refl _⟩ rfl hl rfl (Nat.le_of_ble_eq_true rfl) d_LE_isAnswered_7 ?_
    exact R_z hc hr hlocks (by first | (rw [bI_f (fun q => absurd q.1 (by decide))]; rfl) | (rw [bI_t ((inN_nI (by omega)).mpr ha1)]; rfl)) (bI_nar _) d_LE_isAnswered_10
set_option maxHeartbeats 4000000 in
theorem c_LE_owedFor (l : Launch) (D : va_G) (g : wG) (F : wF) (pc cn : Nat) (fr to hv dy : Nat → Nat) (an af : Nat → Option Nat) (hI : LI pc cn fr to hv dy an af) (hL : LC g F cn fr to hv dy an af) (k d : Nat) (hk : k < cn) (hd : d ≤ 99) : CR l y_LE_owedFor b_LE_owedFor 5 (Option.some Jvm.ClassFile.FieldType.int) 1 D g F [.ref (wad g 11), .int (nI k), .int (nI d)] (.int (nI (owT d dy an (lsc g fr hv) k))) := by
  refine CR.start rfl (Nat.le_of_ble_eq_true rfl) ?_
  intro p e s m args below meth c A ls hc hr hlocks hw hl
  have hl : lv_has ls 5 [(0, .ref (wad g 11)), (1, .int (nI k)), (2, .int (nI d))] := hl
  have hx := hc.1
  have hb := hc.2.1
  have hcn := hI.1
  obtain ⟨⟨hi1, hi2, hi3, hi4, hi5, hi6⟩, hi7, hi8⟩ := hI.2 k hk
  refine lv_aload_n hx hb d_LE_owedFor_0 rfl (lv_at hl 0 rfl) ?_
  refine gf_LE_27 hc hw d_LE_owedFor_1 ?_
  refine lv_iload_n hx hb d_LE_owedFor_4 rfl (lv_at hl 1 rfl) ?_
  rcases ho : an k with _ | a
  · refine r_iald hc hw (h := 17) (n := 24) (i := k) (fun _ => rfl) (by omega) (by omega) (by decide) d_LE_owedFor_5 (v := .int ((-9))) (congrArg Value.int ((hL.2 (k) (by omega)).2.2.2.2.2.1.trans (by rw [ho]; rfl))) ?_
    refine lv_istore_n (lv' := [(3, .int ((-9))), (0, .ref (wad g 11)), (1, .int (nI k)), (2, .int (nI d))]) hx hb d_LE_owedFor_6 rfl hl (by decide) rfl (fun ls hl => ?_)
    refine lv_aload_n hx hb d_LE_owedFor_7 rfl (lv_at hl 1 rfl) ?_
    refine lv_iload_n hx hb d_LE_owedFor_8 rfl (lv_at hl 0 rfl) ?_
    refine kRV hc hw lk_LE_37 (As := [.int ((-9))]) (rest := []) (c_LE_has l D g _ cn hL.1 hI.1 ((-9))) (rc_LE hw) ⟨Nat.le_of_ble_eq_true rfl, Nat.le_of_ble_eq_true rfl⟩ ⟨Nat.le_refl _, Nat.le_refl _⟩ rfl hl rfl (Nat.le_of_ble_eq_true rfl) d_LE_owedFor_9 ?_
    refine b_if_eq (tgt := 29) hc d_LE_owedFor_12 (by decide) (fun c_1 => ?_) (fun c_1 => ?_)
    · try unfold inN at c_1
      refine lv_iconst (v := nI 0) hx hb d_LE_owedFor_29 (by decide) ?_
      refine lv_istore (lv' := [(4, .int (nI 0)), (3, .int ((-9))), (0, .ref (wad g 11)), (1, .int (nI k)), (2, .int (nI d))]) hx hb d_LE_owedFor_30 hl (by decide) rfl (fun ls hl => ?_)
      refine lv_aload_n hx hb d_LE_owedFor_32 rfl (lv_at hl 2 rfl) ?_
      refine gf_LE_21 hc hw d_LE_owedFor_33 ?_
      refine lv_iload_n hx hb d_LE_owedFor_36 rfl (lv_at hl 3 rfl) ?_
      refine r_iald hc hw (h := 15) (n := 24) (i := k) (fun _ => rfl) (by omega) (by omega) (by decide) d_LE_owedFor_37 (v := .int (nI (dy k))) (congrArg Value.int ((hL.2 (k) (by omega)).2.2.2.1)) ?_
      refine lv_iload_n hx hb d_LE_owedFor_38 rfl (lv_at hl 4 rfl) ?_
      refine q_icmp_gt (tgt := 47) hc (by omega) (by omega) d_LE_owedFor_39 (by decide) (fun c_2 => ?_) (fun c_2 => ?_)
      · refine lv_iconst (v := nI 0) hx hb d_LE_owedFor_47 (by decide) ?_
        refine lv_goto (tgt := 66) hx hb d_LE_owedFor_48 (by decide) ?_
        exact R_i hc hr hlocks (by congr 2; (first | rw [owT_n ho] | rw [owT_s ho]); (repeat' split) <;> first | rfl | omega) d_LE_owedFor_66
      · refine lv_iload hx hb d_LE_owedFor_42 (lv_at hl 0 rfl) ?_
        refine q_if_eq (tgt := 51) hc (by omega) d_LE_owedFor_44 (by decide) (fun c_3 => ?_) (fun c_3 => ?_)
        · refine lv_iload_n hx hb d_LE_owedFor_51 rfl (lv_at hl 4 rfl) ?_
          refine lv_aload_n hx hb d_LE_owedFor_52 rfl (lv_at hl 2 rfl) ?_
          refine gf_LE_21 hc hw d_LE_owedFor_53 ?_
          refine lv_iload_n hx hb d_LE_owedFor_56 rfl (lv_at hl 3 rfl) ?_
          refine r_iald hc hw (h := 15) (n := 24) (i := k) (fun _ => rfl) (by omega) (by omega) (by decide) d_LE_owedFor_57 (v := .int (nI (dy k))) (congrArg Value.int ((hL.2 (k) (by omega)).2.2.2.1)) ?_
          refine q_isub hc (by omega) d_LE_owedFor_58 ?_
          refine lv_aload_n hx hb d_LE_owedFor_59 rfl (lv_at hl 2 rfl) ?_
          refine gf_LE_24 hc hw d_LE_owedFor_60 ?_
          refine lv_iload_n hx hb d_LE_owedFor_63 rfl (lv_at hl 3 rfl) ?_
          refine r_iald hc hw (h := 16) (n := 24) (i := k) (fun _ => rfl) (by omega) (by omega) (by decide) d_LE_owedFor_64 (v := .int (nI (lsc g fr hv k))) (congrArg Value.int ((hL.2 (k) (by omega)).2.2.2.2.1)) ?_
          refine q_imul hc d_LE_owedFor_65 ?_
          exact R_i hc hr hlocks (by congr 2; (first | rw [owT_n ho] | rw [owT_s ho]); (repeat' split) <;> first | rfl | omega) d_LE_owedFor_66
        · exact absurd c_3 (by first | omega | decide)
    · exact absurd c_1.1 (by decide)
  · obtain ⟨ha1, ha2, ha3, ha4, ha5⟩ := (hI.2 k (by omega)).2.1 a ho
    have hda := (hI.2 a (by omega)).1.2.2.2.2.2
    refine r_iald hc hw (h := 17) (n := 24) (i := k) (fun _ => rfl) (by omega) (by omega) (by decide) d_LE_owedFor_5 (v := .int (nI a)) (congrArg Value.int ((hL.2 (k) (by omega)).2.2.2.2.2.1.trans (by rw [ho]; rfl))) ?_
    refine lv_istore_n (lv' := [(3, .int (nI a)), (0, .ref (wad g 11)), (1, .int (nI k)), (2, .int (nI d))]) hx hb d_LE_owedFor_6 rfl hl (by decide) rfl (fun ls hl => ?_)
    refine lv_aload_n hx hb d_LE_owedFor_7 rfl (lv_at hl 1 rfl) ?_
    refine lv_iload_n hx hb d_LE_owedFor_8 rfl (lv_at hl 0 rfl) ?_
    refine kRV hc hw lk_LE_37 (As := [.int (nI a)]) (rest := []) (c_LE_has l D g _ cn hL.1 hI.1 (nI a)) (rc_LE hw) ⟨Nat.le_of_ble_eq_true rfl, Nat.le_of_ble_eq_true rfl⟩ ⟨Nat.le_refl _, Nat.le_refl _⟩ rfl hl rfl (Nat.le_of_ble_eq_true rfl) d_LE_owedFor_9 ?_
    refine b_if_eq (tgt := 29) hc d_LE_owedFor_12 (by decide) (fun c_4 => ?_) (fun c_4 => ?_)
    · exact absurd ((inN_nI (by omega)).mpr ha1) c_4
    · try unfold inN at c_4
      refine lv_aload_n hx hb d_LE_owedFor_15 rfl (lv_at hl 1 rfl) ?_
      refine gf_LE_21 hc hw d_LE_owedFor_16 ?_
      refine lv_iload_n hx hb d_LE_owedFor_19 rfl (lv_at hl 0 rfl) ?_
      refine r_iald hc hw (h := 15) (n := 24) (i := a) (fun _ => rfl) (by omega) (by omega) (by decide) d_LE_owedFor_20 (v := .int (nI (dy a))) (congrArg Value.int ((hL.2 (a) (by omega)).2.2.2.1)) ?_
      refine lv_iload_n hx hb d_LE_owedFor_21 rfl (lv_at hl 3 rfl) ?_
      refine q_icmp_gt (tgt := 29) hc (by omega) (by omega) d_LE_owedFor_22 (by decide) (fun c_5 => ?_) (fun c_5 => ?_)
      · refine lv_iconst (v := nI 0) hx hb d_LE_owedFor_29 (by decide) ?_
        refine lv_istore (lv' := [(4, .int (nI 0)), (3, .int (nI a)), (0, .ref (wad g 11)), (1, .int (nI k)), (2, .int (nI d))]) hx hb d_LE_owedFor_30 hl (by decide) rfl (fun ls hl => ?_)
        refine lv_aload_n hx hb d_LE_owedFor_32 rfl (lv_at hl 2 rfl) ?_
        refine gf_LE_21 hc hw d_LE_owedFor_33 ?_
        refine lv_iload_n hx hb d_LE_owedFor_36 rfl (lv_at hl 3 rfl) ?_
        refine r_iald hc hw (h := 15) (n := 24) (i := k) (fun _ => rfl) (by omega) (by omega) (by decide) d_LE_owedFor_37 (v := .int (nI (dy k))) (congrArg Value.int ((hL.2 (k) (by omega)).2.2.2.1)) ?_
        refine lv_iload_n hx hb d_LE_owedFor_38 rfl (lv_at hl 4 rfl) ?_
        refine q_icmp_gt (tgt := 47) hc (by omega) (by omega) d_LE_owedFor_39 (by decide) (fun c_6 => ?_) (fun c_6 => ?_)
        · refine lv_iconst (v := nI 0) hx hb d_LE_owedFor_47 (by decide) ?_
          refine lv_goto (tgt := 66) hx hb d_LE_owedFor_48 (by decide) ?_
          exact R_i hc hr hlocks (by congr 2; (first | rw [owT_n ho] | rw [owT_s ho]); (repeat' split) <;> first | rfl | omega) d_LE_owedFor_66
        · refine lv_iload hx hb d_LE_owedFor_42 (lv_at hl 0 rfl) ?_
          refine q_if_eq (tgt := 51) hc (by omega) d_LE_owedFor_44 (by decide) (fun c_7 => ?_) (fun c_7 => ?_)
          · refine lv_iload_n hx hb d_LE_owedFor_51 rfl (lv_at hl 4 rfl) ?_
            refine lv_aload_n hx hb d_LE_owedFor_52 rfl (lv_at hl 2 rfl) ?_
            refine gf_LE_21 hc hw d_LE_owedFor_53 ?_
            refine lv_iload_n hx hb d_LE_owedFor_56 rfl (lv_at hl 3 rfl) ?_
            refine r_iald hc hw (h := 15) (n := 24) (i := k) (fun _ => rfl) (by omega) (by omega) (by decide) d_LE_owedFor_57 (v := .int (nI (dy k))) (congrArg Value.int ((hL.2 (k) (by omega)).2.2.2.1)) ?_
            refine q_isub hc (by omega) d_LE_owedFor_58 ?_
            refine lv_aload_n hx hb d_LE_owedFor_59 rfl (lv_at hl 2 rfl) ?_
            refine gf_LE_24 hc hw d_LE_owedFor_60 ?_
            refine lv_iload_n hx hb d_LE_owedFor_63 rfl (lv_at hl 3 rfl) ?_
            refine r_iald hc hw (h := 16) (n := 24) (i := k) (fun _ => rfl) (by omega) (by omega) (by decide) d_LE_owedFor_64 (v := .int (nI (lsc g fr hv k))) (congrArg Value.int ((hL.2 (k) (by omega)).2.2.2.2.1)) ?_
            refine q_imul hc d_LE_owedFor_65 ?_
            exact R_i hc hr hlocks (by congr 2; (first | rw [owT_n ho] | rw [owT_s ho]); (repeat' split) <;> first | rfl | omega) d_LE_owedFor_66
          · exact absurd c_7 (by first | omega | decide)
      · refine lv_iconst (v := nI 1) hx hb d_LE_owedFor_25 (by decide) ?_
        refine lv_goto (tgt := 30) hx hb d_LE_owedFor_26 (by decide) ?_
        refine lv_istore (lv' := [(4, .int (nI 1)), (3, .int (nI a)), (0, .ref (wad g 11)), (1, .int (nI k)), (2, .int (nI d))]) hx hb d_LE_owedFor_30 hl (by decide) rfl (fun ls hl => ?_)
        refine lv_aload_n hx hb d_LE_owedFor_32 rfl (lv_at hl 2 rfl) ?_
        refine gf_LE_21 hc hw d_LE_owedFor_33 ?_
        refine lv_iload_n hx hb d_LE_owedFor_36 rfl (lv_at hl 3 rfl) ?_
        refine r_iald hc hw (h := 15) (n := 24) (i := k) (fun _ => rfl) (by omega) (by omega) (by decide) d_LE_owedFor_37 (v := .int (nI (dy k))) (congrArg Value.int ((hL.2 (k) (by omega)).2.2.2.1)) ?_
        refine lv_iload_n hx hb d_LE_owedFor_38 rfl (lv_at hl 4 rfl) ?_
        refine q_icmp_gt (tgt := 47) hc (by omega) (by omega) d_LE_owedFor_39 (by decide) (fun c_8 => ?_) (fun c_8 => ?_)
        · refine lv_iconst (v := nI 0) hx hb d_LE_owedFor_47 (by decide) ?_
          refine lv_goto (tgt := 66) hx hb d_LE_owedFor_48 (by decide) ?_
          exact R_i hc hr hlocks (by congr 2; (first | rw [owT_n ho] | rw [owT_s ho]); (repeat' split) <;> first | rfl | omega) d_LE_owedFor_66
        · refine lv_iload hx hb d_LE_owedFor_42 (lv_at hl 0 rfl) ?_
          refine q_if_eq (tgt := 51) hc (by omega) d_LE_owedFor_44 (by decide) (fun c_9 => ?_) (fun c_9 => ?_)
          · exact absurd c_9 (by first | omega | decide)
          · refine lv_iconst (v := nI 0) hx hb d_LE_owedFor_47 (by decide) ?_
            refine lv_goto (tgt := 66) hx hb d_LE_owedFor_48 (by decide) ?_
            exact R_i hc hr hlocks (by congr 2; (first | rw [owT_n ho] | rw [owT_s ho]); (repeat' split) <;> first | rfl | omega) d_LE_owedFor_66
set_option maxHeartbeats 4000000 in
theorem c_LE_owed (l : Launch) (D : va_G) (g : wG) (F : wF) (pc cn : Nat) (fr to hv dy : Nat → Nat) (an af : Nat → Option Nat) (hI : LI pc cn fr to hv dy an af) (hL : LC g F cn fr to hv dy an af) (pj o d : Nat) (hpc : pc ≤ 6) (hpj : pj < pc) (ho1 : o < pc) (hd : d ≤ 99) : CR l y_LE_owed b_LE_owed 6 (Option.some Jvm.ClassFile.FieldType.int) 2 D g F [.ref (wad g 11), .int (nI pj), .int (nI o), .int (nI d)] (.int (nI (owS pj o d fr to dy an (lsc g fr hv) cn))) := by
  refine CR.start rfl (Nat.le_of_ble_eq_true rfl) ?_
  intro p e s m args below meth c A ls hc hr hlocks hw hl
  have hl : lv_has ls 6 [(0, .ref (wad g 11)), (1, .int (nI pj)), (2, .int (nI o)), (3, .int (nI d))] := hl
  have hx := hc.1
  have hb := hc.2.1
  have hcn := hI.1
  refine lv_iconst (v := nI 0) hx hb d_LE_owed_0 (by decide) ?_
  refine lv_istore (lv' := [(4, .int (nI 0)), (0, .ref (wad g 11)), (1, .int (nI pj)), (2, .int (nI o)), (3, .int (nI d))]) hx hb d_LE_owed_1 hl (by decide) rfl (fun ls hl => ?_)
  refine lv_iconst (v := nI 0) hx hb d_LE_owed_3 (by decide) ?_
  refine lv_istore (lv' := [(5, .int (nI 0)), (4, .int (nI 0)), (0, .ref (wad g 11)), (1, .int (nI pj)), (2, .int (nI o)), (3, .int (nI d))]) hx hb d_LE_owed_4 hl (by decide) rfl (fun ls hl => ?_)
  have loop_6 : ∀ (n_6 : Nat) (k : Nat)  (ls : Array Slot), (cn - k) < n_6 → (k ≤ cn) → Wd D g F A s.heap s.heap [] s → lv_has ls 6 [(0, .ref (wad g 11)), (1, .int (nI pj)), (2, .int (nI o)), (3, .int (nI d)), (4, .int (nI (owS pj o d fr to dy an (lsc g fr hv) k))), (5, .int (nI k))] → W p l e (rmc 2 0 0) s m args below meth c s.heap [] 0 0 (MQ below (k2_QcV (.int (nI (owS pj o d fr to dy an (lsc g fr hv) cn)))) args s 0 0 (fun _ => False)) (F0 m 6 ls []) := by
    intro n_6
    induction n_6 with
    | zero => intro k  ls hm; exact absurd hm (Nat.not_lt_zero _)
    | succ n_6 ih_6 =>
      intro k  ls hm_6 hk hw hl
      refine lv_iload hx hb d_LE_owed_6 (lv_at hl 5 rfl) ?_
      refine lv_aload_n hx hb d_LE_owed_8 rfl (lv_at hl 0 rfl) ?_
      refine gf_LE_33 hc hw d_LE_owed_9 (v := .int (nI cn)) (congrArg Value.int (hL.1)) ?_
      refine q_icmp_ge (tgt := 55) hc (by omega) (by omega) d_LE_owed_12 (by decide) (fun c_1 => ?_) (fun c_1 => ?_)
      · have hkc : k = cn := by omega
        subst hkc
        refine lv_iload hx hb d_LE_owed_55 (lv_at hl 4 rfl) ?_
        exact R_i hc hr hlocks (rfl) d_LE_owed_57
      · obtain ⟨⟨hi1, hi2, hi3, hi4, hi5, hi6⟩, hi7, hi8⟩ := hI.2 k (by omega)
        refine lv_aload_n hx hb d_LE_owed_15 rfl (lv_at hl 0 rfl) ?_
        refine gf_LE_15 hc hw d_LE_owed_16 ?_
        refine lv_iload hx hb d_LE_owed_19 (lv_at hl 5 rfl) ?_
        refine r_iald hc hw (h := 13) (n := 24) (i := k) (fun _ => rfl) (by omega) (by omega) (by decide) d_LE_owed_21 (v := .int (nI (to k))) (congrArg Value.int ((hL.2 (k) (by omega)).2.1)) ?_
        refine lv_iload_n hx hb d_LE_owed_22 rfl (lv_at hl 1 rfl) ?_
        refine q_icmp_ne (tgt := 49) hc (by omega) (by omega) d_LE_owed_23 (by decide) (fun c_2 => ?_) (fun c_2 => ?_)
        · refine lv_iinc (v := nI (k + 1)) (lv' := [(5, .int (nI (k + 1))), (0, .ref (wad g 11)), (1, .int (nI pj)), (2, .int (nI o)), (3, .int (nI d)), (4, .int (nI (owS pj o d fr to dy an (lsc g fr hv) k)))]) hx hb d_LE_owed_49 hl (k := 5) rfl (nI_inc1 _) (by decide) rfl (fun ls hl => ?_)
          refine lv_goto (tgt := 6) hx hb d_LE_owed_52 (by decide) ?_
          have hl : lv_has ls 6 [(5, .int (nI (k + 1))), (0, .ref (wad g 11)), (1, .int (nI pj)), (2, .int (nI o)), (3, .int (nI d)), (4, .int (nI (owS pj o d fr to dy an (lsc g fr hv) (k + 1))))] := by rw [show owS pj o d fr to dy an (lsc g fr hv) (k + 1) = owS pj o d fr to dy an (lsc g fr hv) k from by (show owS pj o d fr to dy an (lsc g fr hv) k + (if to k = pj ∧ fr k = o then owT d dy an (lsc g fr hv) k else 0) = _; first | rw [if_pos (by omega)] | (rw [if_neg (by omega)]; rfl))]; exact hl
          exact ih_6 (k + 1) _ (by omega) (by omega) hw (lv_sub hl [1, 2, 3, 4, 5, 0] rfl)
        · refine lv_aload_n hx hb d_LE_owed_26 rfl (lv_at hl 0 rfl) ?_
          refine gf_LE_9 hc hw d_LE_owed_27 ?_
          refine lv_iload hx hb d_LE_owed_30 (lv_at hl 5 rfl) ?_
          refine r_iald hc hw (h := 12) (n := 24) (i := k) (fun _ => rfl) (by omega) (by omega) (by decide) d_LE_owed_32 (v := .int (nI (fr k))) (congrArg Value.int ((hL.2 (k) (by omega)).1)) ?_
          refine lv_iload_n hx hb d_LE_owed_33 rfl (lv_at hl 2 rfl) ?_
          refine q_icmp_ne (tgt := 49) hc (by omega) (by omega) d_LE_owed_34 (by decide) (fun c_3 => ?_) (fun c_3 => ?_)
          · refine lv_iinc (v := nI (k + 1)) (lv' := [(5, .int (nI (k + 1))), (0, .ref (wad g 11)), (1, .int (nI pj)), (2, .int (nI o)), (3, .int (nI d)), (4, .int (nI (owS pj o d fr to dy an (lsc g fr hv) k)))]) hx hb d_LE_owed_49 hl (k := 5) rfl (nI_inc1 _) (by decide) rfl (fun ls hl => ?_)
            refine lv_goto (tgt := 6) hx hb d_LE_owed_52 (by decide) ?_
            have hl : lv_has ls 6 [(5, .int (nI (k + 1))), (0, .ref (wad g 11)), (1, .int (nI pj)), (2, .int (nI o)), (3, .int (nI d)), (4, .int (nI (owS pj o d fr to dy an (lsc g fr hv) (k + 1))))] := by rw [show owS pj o d fr to dy an (lsc g fr hv) (k + 1) = owS pj o d fr to dy an (lsc g fr hv) k from by (show owS pj o d fr to dy an (lsc g fr hv) k + (if to k = pj ∧ fr k = o then owT d dy an (lsc g fr hv) k else 0) = _; first | rw [if_pos (by omega)] | (rw [if_neg (by omega)]; rfl))]; exact hl
            exact ih_6 (k + 1) _ (by omega) (by omega) hw (lv_sub hl [1, 2, 3, 4, 5, 0] rfl)
          · refine lv_iload hx hb d_LE_owed_37 (lv_at hl 4 rfl) ?_
            refine lv_aload_n hx hb d_LE_owed_39 rfl (lv_at hl 0 rfl) ?_
            refine lv_iload hx hb d_LE_owed_40 (lv_at hl 5 rfl) ?_
            refine lv_iload_n hx hb d_LE_owed_42 rfl (lv_at hl 3 rfl) ?_
            refine kRV hc hw lk_LE_58 (As := [.int (nI k), .int (nI d)]) (rest := [.int (nI (owS pj o d fr to dy an (lsc g fr hv) k))]) (c_LE_owedFor l D g _ pc cn fr to hv dy an af hI hL (k) (d) (by omega) (by omega)) (rc_LE hw) ⟨Nat.le_of_ble_eq_true rfl, Nat.le_of_ble_eq_true rfl⟩ ⟨Nat.le_refl _, Nat.le_refl _⟩ rfl hl rfl (Nat.le_of_ble_eq_true rfl) d_LE_owed_43 ?_
            refine q_iadd hc d_LE_owed_46 ?_
            refine lv_istore (lv' := [(4, .int (nI ((owS pj o d fr to dy an (lsc g fr hv) k) + (owT d dy an (lsc g fr hv) k)))), (0, .ref (wad g 11)), (1, .int (nI pj)), (2, .int (nI o)), (3, .int (nI d)), (5, .int (nI k))]) hx hb d_LE_owed_47 hl (by decide) rfl (fun ls hl => ?_)
            refine lv_iinc (v := nI (k + 1)) (lv' := [(5, .int (nI (k + 1))), (4, .int (nI ((owS pj o d fr to dy an (lsc g fr hv) k) + (owT d dy an (lsc g fr hv) k)))), (0, .ref (wad g 11)), (1, .int (nI pj)), (2, .int (nI o)), (3, .int (nI d))]) hx hb d_LE_owed_49 hl (k := 5) rfl (nI_inc1 _) (by decide) rfl (fun ls hl => ?_)
            refine lv_goto (tgt := 6) hx hb d_LE_owed_52 (by decide) ?_
            have hl : lv_has ls 6 [(5, .int (nI (k + 1))), (4, .int (nI (owS pj o d fr to dy an (lsc g fr hv) (k + 1)))), (0, .ref (wad g 11)), (1, .int (nI pj)), (2, .int (nI o)), (3, .int (nI d))] := by rw [show owS pj o d fr to dy an (lsc g fr hv) (k + 1) = (owS pj o d fr to dy an (lsc g fr hv) k) + (owT d dy an (lsc g fr hv) k) from by (show owS pj o d fr to dy an (lsc g fr hv) k + (if to k = pj ∧ fr k = o then owT d dy an (lsc g fr hv) k else 0) = _; first | rw [if_pos (by omega)] | (rw [if_neg (by omega)]; rfl))]; exact hl
            exact ih_6 (k + 1) _ (by omega) (by omega) hw (lv_sub hl [2, 3, 4, 5, 1, 0] rfl)
  have hl : lv_has ls 6 [(5, .int (nI 0)), (4, .int (nI (owS pj o d fr to dy an (lsc g fr hv) 0))), (0, .ref (wad g 11)), (1, .int (nI pj)), (2, .int (nI o)), (3, .int (nI d))] := by rw [show owS pj o d fr to dy an (lsc g fr hv) 0 = 0 from by rfl]; exact hl
  exact loop_6 _ 0 _ (Nat.lt_succ_self _) (by omega) hw (lv_sub hl [2, 3, 4, 5, 1, 0] rfl)
set_option maxHeartbeats 4000000 in
theorem c_LE_netOf (l : Launch) (D : va_G) (g : wG) (F : wF) (pc cn : Nat) (fr to hv dy : Nat → Nat) (an af : Nat → Option Nat) (hI : LI pc cn fr to hv dy an af) (hL : LC g F cn fr to hv dy an af) (pj d : Nat) (hpc : pc ≤ 6) (hpj : pj < pc) (hd : d ≤ 99) : CR l y_LE_netOf b_LE_netOf 5 (Option.some Jvm.ClassFile.FieldType.int) 2 D g F [.ref (wad g 11), .int (nI pj), .int (nI d)] (.int (ntS pj d fr to dy an (lsc g fr hv) cn)) := by
  refine CR.start rfl (Nat.le_of_ble_eq_true rfl) ?_
  intro p e s m args below meth c A ls hc hr hlocks hw hl
  have hl : lv_has ls 5 [(0, .ref (wad g 11)), (1, .int (nI pj)), (2, .int (nI d))] := hl
  have hx := hc.1
  have hb := hc.2.1
  have hcn := hI.1
  refine lv_iconst (v := nI 0) hx hb d_LE_netOf_0 (by decide) ?_
  refine lv_istore_n (lv' := [(3, .int (nI 0)), (0, .ref (wad g 11)), (1, .int (nI pj)), (2, .int (nI d))]) hx hb d_LE_netOf_1 rfl hl (by decide) rfl (fun ls hl => ?_)
  refine lv_iconst (v := nI 0) hx hb d_LE_netOf_2 (by decide) ?_
  refine lv_istore (lv' := [(4, .int (nI 0)), (3, .int (nI 0)), (0, .ref (wad g 11)), (1, .int (nI pj)), (2, .int (nI d))]) hx hb d_LE_netOf_3 hl (by decide) rfl (fun ls hl => ?_)
  have loop_5 : ∀ (n_5 : Nat) (k : Nat)  (ls : Array Slot), (cn - k) < n_5 → (k ≤ cn) → Wd D g F A s.heap s.heap [] s → lv_has ls 5 [(0, .ref (wad g 11)), (1, .int (nI pj)), (2, .int (nI d)), (3, .int (ntS pj d fr to dy an (lsc g fr hv) k)), (4, .int (nI k))] → W p l e (rmc 2 0 0) s m args below meth c s.heap [] 0 0 (MQ below (k2_QcV (.int (ntS pj d fr to dy an (lsc g fr hv) cn))) args s 0 0 (fun _ => False)) (F0 m 5 ls []) := by
    intro n_5
    induction n_5 with
    | zero => intro k  ls hm; exact absurd hm (Nat.not_lt_zero _)
    | succ n_5 ih_5 =>
      intro k  ls hm_5 hk hw hl
      refine lv_iload hx hb d_LE_netOf_5 (lv_at hl 4 rfl) ?_
      refine lv_aload_n hx hb d_LE_netOf_7 rfl (lv_at hl 0 rfl) ?_
      refine gf_LE_33 hc hw d_LE_netOf_8 (v := .int (nI cn)) (congrArg Value.int (hL.1)) ?_
      refine q_icmp_ge (tgt := 65) hc (by omega) (by omega) d_LE_netOf_11 (by decide) (fun c_1 => ?_) (fun c_1 => ?_)
      · have hkc : k = cn := by omega
        subst hkc
        refine lv_iload_n hx hb d_LE_netOf_65 rfl (lv_at hl 3 rfl) ?_
        exact R_i hc hr hlocks (rfl) d_LE_netOf_66
      · obtain ⟨⟨hi1, hi2, hi3, hi4, hi5, hi6⟩, hi7, hi8⟩ := hI.2 k (by omega)
        refine lv_aload_n hx hb d_LE_netOf_14 rfl (lv_at hl 0 rfl) ?_
        refine gf_LE_9 hc hw d_LE_netOf_15 ?_
        refine lv_iload hx hb d_LE_netOf_18 (lv_at hl 4 rfl) ?_
        refine r_iald hc hw (h := 12) (n := 24) (i := k) (fun _ => rfl) (by omega) (by omega) (by decide) d_LE_netOf_20 (v := .int (nI (fr k))) (congrArg Value.int ((hL.2 (k) (by omega)).1)) ?_
        refine lv_iload_n hx hb d_LE_netOf_21 rfl (lv_at hl 1 rfl) ?_
        refine q_icmp_ne (tgt := 38) hc (by omega) (by omega) d_LE_netOf_22 (by decide) (fun c_2 => ?_) (fun c_2 => ?_)
        · refine lv_aload_n hx hb d_LE_netOf_38 rfl (lv_at hl 0 rfl) ?_
          refine gf_LE_15 hc hw d_LE_netOf_39 ?_
          refine lv_iload hx hb d_LE_netOf_42 (lv_at hl 4 rfl) ?_
          refine r_iald hc hw (h := 13) (n := 24) (i := k) (fun _ => rfl) (by omega) (by omega) (by decide) d_LE_netOf_44 (v := .int (nI (to k))) (congrArg Value.int ((hL.2 (k) (by omega)).2.1)) ?_
          refine lv_iload_n hx hb d_LE_netOf_45 rfl (lv_at hl 1 rfl) ?_
          refine q_icmp_ne (tgt := 59) hc (by omega) (by omega) d_LE_netOf_46 (by decide) (fun c_3 => ?_) (fun c_3 => ?_)
          · refine lv_iinc (v := nI (k + 1)) (lv' := [(4, .int (nI (k + 1))), (0, .ref (wad g 11)), (1, .int (nI pj)), (2, .int (nI d)), (3, .int (ntS pj d fr to dy an (lsc g fr hv) k))]) hx hb d_LE_netOf_59 hl (k := 4) rfl (nI_inc1 _) (by decide) rfl (fun ls hl => ?_)
            refine lv_goto (tgt := 5) hx hb d_LE_netOf_62 (by decide) ?_
            have hl : lv_has ls 5 [(4, .int (nI (k + 1))), (0, .ref (wad g 11)), (1, .int (nI pj)), (2, .int (nI d)), (3, .int (ntS pj d fr to dy an (lsc g fr hv) (k + 1)))] := by rw [show ntS pj d fr to dy an (lsc g fr hv) (k + 1) = ntS pj d fr to dy an (lsc g fr hv) k from by (show (if fr k = pj then _ else if to k = pj then _ else _) = _; first | rw [if_pos (by omega)] | rw [if_neg (by omega), if_pos (by omega)] | rw [if_neg (by omega), if_neg (by omega)])]; exact hl
            exact ih_5 (k + 1) _ (by omega) (by omega) hw (lv_sub hl [1, 2, 3, 4, 0] rfl)
          · refine lv_iload_n hx hb d_LE_netOf_49 rfl (lv_at hl 3 rfl) ?_
            refine lv_aload_n hx hb d_LE_netOf_50 rfl (lv_at hl 0 rfl) ?_
            refine lv_iload hx hb d_LE_netOf_51 (lv_at hl 4 rfl) ?_
            refine lv_iload_n hx hb d_LE_netOf_53 rfl (lv_at hl 2 rfl) ?_
            refine kRV hc hw lk_LE_58 (As := [.int (nI k), .int (nI d)]) (rest := [.int (ntS pj d fr to dy an (lsc g fr hv) k)]) (c_LE_owedFor l D g _ pc cn fr to hv dy an af hI hL (k) (d) (by omega) (by omega)) (rc_LE hw) ⟨Nat.le_of_ble_eq_true rfl, Nat.le_of_ble_eq_true rfl⟩ ⟨Nat.le_refl _, Nat.le_refl _⟩ rfl hl rfl (Nat.le_of_ble_eq_true rfl) d_LE_netOf_54 ?_
            refine lv_isub hx hb d_LE_netOf_57 ?_
            refine lv_istore_n (lv' := [(3, .int ((ntS pj d fr to dy an (lsc g fr hv) k) - (nI (owT d dy an (lsc g fr hv) k)))), (0, .ref (wad g 11)), (1, .int (nI pj)), (2, .int (nI d)), (4, .int (nI k))]) hx hb d_LE_netOf_58 rfl hl (by decide) rfl (fun ls hl => ?_)
            refine lv_iinc (v := nI (k + 1)) (lv' := [(4, .int (nI (k + 1))), (3, .int ((ntS pj d fr to dy an (lsc g fr hv) k) - (nI (owT d dy an (lsc g fr hv) k)))), (0, .ref (wad g 11)), (1, .int (nI pj)), (2, .int (nI d))]) hx hb d_LE_netOf_59 hl (k := 4) rfl (nI_inc1 _) (by decide) rfl (fun ls hl => ?_)
            refine lv_goto (tgt := 5) hx hb d_LE_netOf_62 (by decide) ?_
            have hl : lv_has ls 5 [(4, .int (nI (k + 1))), (3, .int (ntS pj d fr to dy an (lsc g fr hv) (k + 1))), (0, .ref (wad g 11)), (1, .int (nI pj)), (2, .int (nI d))] := by rw [show ntS pj d fr to dy an (lsc g fr hv) (k + 1) = (ntS pj d fr to dy an (lsc g fr hv) k) - (nI (owT d dy an (lsc g fr hv) k)) from by (show (if fr k = pj then _ else if to k = pj then _ else _) = _; first | rw [if_pos (by omega)] | rw [if_neg (by omega), if_pos (by omega)] | rw [if_neg (by omega), if_neg (by omega)])]; exact hl
            exact ih_5 (k + 1) _ (by omega) (by omega) hw (lv_sub hl [2, 3, 4, 1, 0] rfl)
        · refine lv_iload_n hx hb d_LE_netOf_25 rfl (lv_at hl 3 rfl) ?_
          refine lv_aload_n hx hb d_LE_netOf_26 rfl (lv_at hl 0 rfl) ?_
          refine lv_iload hx hb d_LE_netOf_27 (lv_at hl 4 rfl) ?_
          refine lv_iload_n hx hb d_LE_netOf_29 rfl (lv_at hl 2 rfl) ?_
          refine kRV hc hw lk_LE_58 (As := [.int (nI k), .int (nI d)]) (rest := [.int (ntS pj d fr to dy an (lsc g fr hv) k)]) (c_LE_owedFor l D g _ pc cn fr to hv dy an af hI hL (k) (d) (by omega) (by omega)) (rc_LE hw) ⟨Nat.le_of_ble_eq_true rfl, Nat.le_of_ble_eq_true rfl⟩ ⟨Nat.le_refl _, Nat.le_refl _⟩ rfl hl rfl (Nat.le_of_ble_eq_true rfl) d_LE_netOf_30 ?_
          refine lv_iadd hx hb d_LE_netOf_33 ?_
          refine lv_istore_n (lv' := [(3, .int ((ntS pj d fr to dy an (lsc g fr hv) k) + (nI (owT d dy an (lsc g fr hv) k)))), (0, .ref (wad g 11)), (1, .int (nI pj)), (2, .int (nI d)), (4, .int (nI k))]) hx hb d_LE_netOf_34 rfl hl (by decide) rfl (fun ls hl => ?_)
          refine lv_goto (tgt := 59) hx hb d_LE_netOf_35 (by decide) ?_
          refine lv_iinc (v := nI (k + 1)) (lv' := [(4, .int (nI (k + 1))), (3, .int ((ntS pj d fr to dy an (lsc g fr hv) k) + (nI (owT d dy an (lsc g fr hv) k)))), (0, .ref (wad g 11)), (1, .int (nI pj)), (2, .int (nI d))]) hx hb d_LE_netOf_59 hl (k := 4) rfl (nI_inc1 _) (by decide) rfl (fun ls hl => ?_)
          refine lv_goto (tgt := 5) hx hb d_LE_netOf_62 (by decide) ?_
          have hl : lv_has ls 5 [(4, .int (nI (k + 1))), (3, .int (ntS pj d fr to dy an (lsc g fr hv) (k + 1))), (0, .ref (wad g 11)), (1, .int (nI pj)), (2, .int (nI d))] := by rw [show ntS pj d fr to dy an (lsc g fr hv) (k + 1) = (ntS pj d fr to dy an (lsc g fr hv) k) + (nI (owT d dy an (lsc g fr hv) k)) from by (show (if fr k = pj then _ else if to k = pj then _ else _) = _; first | rw [if_pos (by omega)] | rw [if_neg (by omega), if_pos (by omega)] | rw [if_neg (by omega), if_neg (by omega)])]; exact hl
          exact ih_5 (k + 1) _ (by omega) (by omega) hw (lv_sub hl [2, 3, 4, 1, 0] rfl)
  have hl : lv_has ls 5 [(4, .int (nI 0)), (3, .int (ntS pj d fr to dy an (lsc g fr hv) 0)), (0, .ref (wad g 11)), (1, .int (nI pj)), (2, .int (nI d))] := by rw [show ntS pj d fr to dy an (lsc g fr hv) 0 = nI 0 from by rfl]; exact hl
  exact loop_5 _ 0 _ (Nat.lt_succ_self _) (by omega) hw (lv_sub hl [2, 3, 4, 1, 0] rfl)
set_option maxHeartbeats 4000000 in
theorem c_LE_paidIf_n (l : Launch) (D : va_G) (g : wG) (F : wF) (pc cn : Nat) (fr to hv dy : Nat → Nat) (an af : Nat → Option Nat) (hI : LI pc cn fr to hv dy an af) (hL : LC g F cn fr to hv dy an af) (lw pj d : Nat) (hlw : lw ≤ 2) (hpc : pc ≤ 6) (hpj : pj < pc) (hd : d ≤ 99) : CR l y_LE_paidIf b_LE_paidIf 11 (Option.some Jvm.ClassFile.FieldType.int) 1 D g F [.ref (wad g 11), .int (nI pj), .int (nI d), .int (nI lw), .int ((-9)), .int (nI 0)] (.int (nI (pdS lw pj d fr to dy an (lsc g fr hv) cn))) := by
  refine CR.start rfl (Nat.le_of_ble_eq_true rfl) ?_
  intro p e s m args below meth c A ls hc hr hlocks hw hl
  have hl : lv_has ls 11 [(0, .ref (wad g 11)), (1, .int (nI pj)), (2, .int (nI d)), (3, .int (nI lw)), (4, .int ((-9))), (5, .int (nI 0))] := hl
  have hx := hc.1
  have hb := hc.2.1
  have hcn := hI.1
  have hs := lsc_le (g := g) hI
  refine lv_iconst (v := nI 0) hx hb d_LE_paidIf_0 (by decide) ?_
  refine lv_istore (lv' := [(6, .int (nI 0)), (0, .ref (wad g 11)), (1, .int (nI pj)), (2, .int (nI d)), (3, .int (nI lw)), (4, .int ((-9))), (5, .int (nI 0))]) hx hb d_LE_paidIf_1 hl (by decide) rfl (fun ls hl => ?_)
  refine lv_iconst (v := nI 0) hx hb d_LE_paidIf_3 (by decide) ?_
  refine lv_istore (lv' := [(7, .int (nI 0)), (6, .int (nI 0)), (0, .ref (wad g 11)), (1, .int (nI pj)), (2, .int (nI d)), (3, .int (nI lw)), (4, .int ((-9))), (5, .int (nI 0))]) hx hb d_LE_paidIf_4 hl (by decide) rfl (fun ls hl => ?_)
  have loop_6 : ∀ (n_6 : Nat) (k : Nat)  (ls : Array Slot), (cn - k) < n_6 → (k ≤ cn) → Wd D g F A s.heap s.heap [] s → lv_has ls 11 [(0, .ref (wad g 11)), (1, .int (nI pj)), (2, .int (nI d)), (3, .int (nI lw)), (4, .int ((-9))), (5, .int (nI 0)), (6, .int (nI (pdS lw pj d fr to dy an (lsc g fr hv) k))), (7, .int (nI k))] → W p l e (rmc 1 0 0) s m args below meth c s.heap [] 0 0 (MQ below (k2_QcV (.int (nI (pdS lw pj d fr to dy an (lsc g fr hv) cn)))) args s 0 0 (fun _ => False)) (F0 m 6 ls []) := by
    intro n_6
    induction n_6 with
    | zero => intro k  ls hm; exact absurd hm (Nat.not_lt_zero _)
    | succ n_6 ih_6 =>
      intro k  ls hm_6 hk hw hl
      refine lv_iload hx hb d_LE_paidIf_6 (lv_at hl 7 rfl) ?_
      refine lv_aload_n hx hb d_LE_paidIf_8 rfl (lv_at hl 0 rfl) ?_
      refine gf_LE_33 hc hw d_LE_paidIf_9 (v := .int (nI cn)) (congrArg Value.int (hL.1)) ?_
      refine q_icmp_ge (tgt := 143) hc (by omega) (by omega) d_LE_paidIf_12 (by decide) (fun c_1 => ?_) (fun c_1 => ?_)
      · have hkc : k = cn := by omega
        subst hkc
        refine lv_iload hx hb d_LE_paidIf_143 (lv_at hl 6 rfl) ?_
        exact R_i hc hr hlocks (rfl) d_LE_paidIf_145
      · obtain ⟨⟨hi1, hi2, hi3, hi4, hi5, hi6⟩, hi7, hi8⟩ := hI.2 k (by omega)
        refine lv_aload_n hx hb d_LE_paidIf_15 rfl (lv_at hl 0 rfl) ?_
        refine gf_LE_27 hc hw d_LE_paidIf_16 ?_
        refine lv_iload hx hb d_LE_paidIf_19 (lv_at hl 7 rfl) ?_
        rcases ho : an k with _ | a
        · refine r_iald hc hw (h := 17) (n := 24) (i := k) (fun _ => rfl) (by omega) (by omega) (by decide) d_LE_paidIf_21 (v := .int ((-9))) (congrArg Value.int ((hL.2 (k) (by omega)).2.2.2.2.2.1.trans (by rw [ho]; rfl))) ?_
          refine lv_istore (lv' := [(8, .int ((-9))), (0, .ref (wad g 11)), (1, .int (nI pj)), (2, .int (nI d)), (3, .int (nI lw)), (4, .int ((-9))), (5, .int (nI 0)), (6, .int (nI (pdS lw pj d fr to dy an (lsc g fr hv) k))), (7, .int (nI k))]) hx hb d_LE_paidIf_22 hl (by decide) rfl (fun ls hl => ?_)
          refine lv_aload_n hx hb d_LE_paidIf_24 rfl (lv_at hl 1 rfl) ?_
          refine lv_iload hx hb d_LE_paidIf_25 (lv_at hl 0 rfl) ?_
          refine kRV hc hw lk_LE_37 (As := [.int ((-9))]) (rest := []) (c_LE_has l D g _ cn hL.1 hI.1 ((-9))) (rc_LE hw) ⟨Nat.le_of_ble_eq_true rfl, Nat.le_of_ble_eq_true rfl⟩ ⟨Nat.le_refl _, Nat.le_refl _⟩ rfl hl rfl (Nat.le_of_ble_eq_true rfl) d_LE_paidIf_27 ?_
          refine b_if_eq (tgt := 137) hc d_LE_paidIf_30 (by decide) (fun c_2 => ?_) (fun c_2 => ?_)
          · try unfold inN at c_2
            refine lv_iinc (v := nI (k + 1)) (lv' := [(7, .int (nI (k + 1))), (8, .int ((-9))), (0, .ref (wad g 11)), (1, .int (nI pj)), (2, .int (nI d)), (3, .int (nI lw)), (4, .int ((-9))), (5, .int (nI 0)), (6, .int (nI (pdS lw pj d fr to dy an (lsc g fr hv) k)))]) hx hb d_LE_paidIf_137 hl (k := 8) rfl (nI_inc1 _) (by decide) rfl (fun ls hl => ?_)
            refine lv_goto (tgt := 6) hx hb d_LE_paidIf_140 (by decide) ?_
            have hl : lv_has ls 11 [(7, .int (nI (k + 1))), (8, .int ((-9))), (0, .ref (wad g 11)), (1, .int (nI pj)), (2, .int (nI d)), (3, .int (nI lw)), (4, .int ((-9))), (5, .int (nI 0)), (6, .int (nI (pdS lw pj d fr to dy an (lsc g fr hv) (k + 1))))] := by rw [show pdS lw pj d fr to dy an (lsc g fr hv) (k + 1) = pdS lw pj d fr to dy an (lsc g fr hv) k from by (show pdS lw pj d fr to dy an (lsc g fr hv) k + pdT lw pj d fr to dy an (lsc g fr hv) k = _; (first | rw [pdT_n ho] | rw [pdT_s ho]); (try dsimp only); (repeat' split) <;> first | rfl | omega)]; exact hl
            exact ih_6 (k + 1) _ (by omega) (by omega) hw (lv_sub hl [2, 3, 4, 5, 6, 7, 8, 0] rfl)
          · exact absurd c_2.1 (by decide)
        · obtain ⟨ha1, ha2, ha3, ha4, ha5⟩ := (hI.2 k (by omega)).2.1 a ho
          have hda := (hI.2 a (by omega)).1.2.2.2.2.2
          have hs1 := hs k (by omega)
          have hs2 := hs a (by omega)
          refine r_iald hc hw (h := 17) (n := 24) (i := k) (fun _ => rfl) (by omega) (by omega) (by decide) d_LE_paidIf_21 (v := .int (nI a)) (congrArg Value.int ((hL.2 (k) (by omega)).2.2.2.2.2.1.trans (by rw [ho]; rfl))) ?_
          refine lv_istore (lv' := [(8, .int (nI a)), (0, .ref (wad g 11)), (1, .int (nI pj)), (2, .int (nI d)), (3, .int (nI lw)), (4, .int ((-9))), (5, .int (nI 0)), (6, .int (nI (pdS lw pj d fr to dy an (lsc g fr hv) k))), (7, .int (nI k))]) hx hb d_LE_paidIf_22 hl (by decide) rfl (fun ls hl => ?_)
          refine lv_aload_n hx hb d_LE_paidIf_24 rfl (lv_at hl 1 rfl) ?_
          refine lv_iload hx hb d_LE_paidIf_25 (lv_at hl 0 rfl) ?_
          refine kRV hc hw lk_LE_37 (As := [.int (nI a)]) (rest := []) (c_LE_has l D g _ cn hL.1 hI.1 (nI a)) (rc_LE hw) ⟨Nat.le_of_ble_eq_true rfl, Nat.le_of_ble_eq_true rfl⟩ ⟨Nat.le_refl _, Nat.le_refl _⟩ rfl hl rfl (Nat.le_of_ble_eq_true rfl) d_LE_paidIf_27 ?_
          refine b_if_eq (tgt := 137) hc d_LE_paidIf_30 (by decide) (fun c_3 => ?_) (fun c_3 => ?_)
          · exact absurd ((inN_nI (by omega)).mpr ha1) c_3
          · try unfold inN at c_3
            refine lv_aload_n hx hb d_LE_paidIf_33 rfl (lv_at hl 1 rfl) ?_
            refine gf_LE_21 hc hw d_LE_paidIf_34 ?_
            refine lv_iload hx hb d_LE_paidIf_37 (lv_at hl 0 rfl) ?_
            refine r_iald hc hw (h := 15) (n := 24) (i := a) (fun _ => rfl) (by omega) (by omega) (by decide) d_LE_paidIf_39 (v := .int (nI (dy a))) (congrArg Value.int ((hL.2 (a) (by omega)).2.2.2.1)) ?_
            refine lv_iload_n hx hb d_LE_paidIf_40 rfl (lv_at hl 3 rfl) ?_
            refine q_icmp_gt (tgt := 137) hc (by omega) (by omega) d_LE_paidIf_41 (by decide) (fun c_4 => ?_) (fun c_4 => ?_)
            · refine lv_iinc (v := nI (k + 1)) (lv' := [(7, .int (nI (k + 1))), (8, .int (nI a)), (0, .ref (wad g 11)), (1, .int (nI pj)), (2, .int (nI d)), (3, .int (nI lw)), (4, .int ((-9))), (5, .int (nI 0)), (6, .int (nI (pdS lw pj d fr to dy an (lsc g fr hv) k)))]) hx hb d_LE_paidIf_137 hl (k := 8) rfl (nI_inc1 _) (by decide) rfl (fun ls hl => ?_)
              refine lv_goto (tgt := 6) hx hb d_LE_paidIf_140 (by decide) ?_
              have hl : lv_has ls 11 [(7, .int (nI (k + 1))), (8, .int (nI a)), (0, .ref (wad g 11)), (1, .int (nI pj)), (2, .int (nI d)), (3, .int (nI lw)), (4, .int ((-9))), (5, .int (nI 0)), (6, .int (nI (pdS lw pj d fr to dy an (lsc g fr hv) (k + 1))))] := by rw [show pdS lw pj d fr to dy an (lsc g fr hv) (k + 1) = pdS lw pj d fr to dy an (lsc g fr hv) k from by (show pdS lw pj d fr to dy an (lsc g fr hv) k + pdT lw pj d fr to dy an (lsc g fr hv) k = _; (first | rw [pdT_n ho] | rw [pdT_s ho]); (try dsimp only); (repeat' split) <;> first | rfl | omega)]; exact hl
              exact ih_6 (k + 1) _ (by omega) (by omega) hw (lv_sub hl [2, 3, 4, 5, 6, 7, 8, 0] rfl)
            · refine lv_iload hx hb d_LE_paidIf_44 (lv_at hl 8 rfl) ?_
              refine lv_iload hx hb d_LE_paidIf_46 (lv_at hl 5 rfl) ?_
              refine u_icmp_ne (tgt := 56) (X := ((k : Nat) : Int)) (Y := (-9)) hc (nI_tI (by omega)) (by decide) d_LE_paidIf_48 (by decide) (fun c_5 => ?_) (fun c_5 => ?_)
              · refine lv_aload_n hx hb d_LE_paidIf_56 rfl (lv_at hl 1 rfl) ?_
                refine gf_LE_24 hc hw d_LE_paidIf_57 ?_
                refine lv_iload hx hb d_LE_paidIf_60 (lv_at hl 8 rfl) ?_
                refine r_iald hc hw (h := 16) (n := 24) (i := k) (fun _ => rfl) (by omega) (by omega) (by decide) d_LE_paidIf_62 (v := .int (nI (lsc g fr hv k))) (congrArg Value.int ((hL.2 (k) (by omega)).2.2.2.2.1)) ?_
                refine lv_istore (lv' := [(9, .int (nI (lsc g fr hv k))), (8, .int (nI a)), (0, .ref (wad g 11)), (1, .int (nI pj)), (2, .int (nI d)), (3, .int (nI lw)), (4, .int ((-9))), (5, .int (nI 0)), (6, .int (nI (pdS lw pj d fr to dy an (lsc g fr hv) k))), (7, .int (nI k))]) hx hb d_LE_paidIf_63 hl (by decide) rfl (fun ls hl => ?_)
                refine lv_iload hx hb d_LE_paidIf_65 (lv_at hl 1 rfl) ?_
                refine lv_iload hx hb d_LE_paidIf_67 (lv_at hl 6 rfl) ?_
                refine u_icmp_ne (tgt := 77) (X := ((a : Nat) : Int)) (Y := (-9)) hc (nI_tI (by omega)) (by decide) d_LE_paidIf_69 (by decide) (fun c_6 => ?_) (fun c_6 => ?_)
                · refine lv_aload_n hx hb d_LE_paidIf_77 rfl (lv_at hl 2 rfl) ?_
                  refine gf_LE_24 hc hw d_LE_paidIf_78 ?_
                  refine lv_iload hx hb d_LE_paidIf_81 (lv_at hl 1 rfl) ?_
                  refine r_iald hc hw (h := 16) (n := 24) (i := a) (fun _ => rfl) (by omega) (by omega) (by decide) d_LE_paidIf_83 (v := .int (nI (lsc g fr hv a))) (congrArg Value.int ((hL.2 (a) (by omega)).2.2.2.2.1)) ?_
                  refine lv_istore (lv' := [(10, .int (nI (lsc g fr hv a))), (9, .int (nI (lsc g fr hv k))), (8, .int (nI a)), (0, .ref (wad g 11)), (1, .int (nI pj)), (2, .int (nI d)), (3, .int (nI lw)), (4, .int ((-9))), (5, .int (nI 0)), (6, .int (nI (pdS lw pj d fr to dy an (lsc g fr hv) k))), (7, .int (nI k))]) hx hb d_LE_paidIf_84 hl (by decide) rfl (fun ls hl => ?_)
                  refine lv_aload_n hx hb d_LE_paidIf_86 rfl (lv_at hl 3 rfl) ?_
                  refine gf_LE_9 hc hw d_LE_paidIf_87 ?_
                  refine lv_iload hx hb d_LE_paidIf_90 (lv_at hl 10 rfl) ?_
                  refine r_iald hc hw (h := 12) (n := 24) (i := k) (fun _ => rfl) (by omega) (by omega) (by decide) d_LE_paidIf_92 (v := .int (nI (fr k))) (congrArg Value.int ((hL.2 (k) (by omega)).1)) ?_
                  refine lv_iload_n hx hb d_LE_paidIf_93 rfl (lv_at hl 4 rfl) ?_
                  refine q_icmp_ne (tgt := 113) hc (by omega) (by omega) d_LE_paidIf_94 (by decide) (fun c_7 => ?_) (fun c_7 => ?_)
                  · refine lv_aload_n hx hb d_LE_paidIf_113 rfl (lv_at hl 3 rfl) ?_
                    refine gf_LE_15 hc hw d_LE_paidIf_114 ?_
                    refine lv_iload hx hb d_LE_paidIf_117 (lv_at hl 10 rfl) ?_
                    refine r_iald hc hw (h := 13) (n := 24) (i := k) (fun _ => rfl) (by omega) (by omega) (by decide) d_LE_paidIf_119 (v := .int (nI (to k))) (congrArg Value.int ((hL.2 (k) (by omega)).2.1)) ?_
                    refine lv_iload_n hx hb d_LE_paidIf_120 rfl (lv_at hl 4 rfl) ?_
                    refine q_icmp_ne (tgt := 137) hc (by omega) (by omega) d_LE_paidIf_121 (by decide) (fun c_8 => ?_) (fun c_8 => ?_)
                    · refine lv_iinc (v := nI (k + 1)) (lv' := [(7, .int (nI (k + 1))), (10, .int (nI (lsc g fr hv a))), (9, .int (nI (lsc g fr hv k))), (8, .int (nI a)), (0, .ref (wad g 11)), (1, .int (nI pj)), (2, .int (nI d)), (3, .int (nI lw)), (4, .int ((-9))), (5, .int (nI 0)), (6, .int (nI (pdS lw pj d fr to dy an (lsc g fr hv) k)))]) hx hb d_LE_paidIf_137 hl (k := 10) rfl (nI_inc1 _) (by decide) rfl (fun ls hl => ?_)
                      refine lv_goto (tgt := 6) hx hb d_LE_paidIf_140 (by decide) ?_
                      have hl : lv_has ls 11 [(7, .int (nI (k + 1))), (10, .int (nI (lsc g fr hv a))), (9, .int (nI (lsc g fr hv k))), (8, .int (nI a)), (0, .ref (wad g 11)), (1, .int (nI pj)), (2, .int (nI d)), (3, .int (nI lw)), (4, .int ((-9))), (5, .int (nI 0)), (6, .int (nI (pdS lw pj d fr to dy an (lsc g fr hv) (k + 1))))] := by rw [show pdS lw pj d fr to dy an (lsc g fr hv) (k + 1) = pdS lw pj d fr to dy an (lsc g fr hv) k from by (show pdS lw pj d fr to dy an (lsc g fr hv) k + pdT lw pj d fr to dy an (lsc g fr hv) k = _; (first | rw [pdT_n ho] | rw [pdT_s ho]); (try dsimp only); (repeat' split) <;> first | rfl | omega)]; exact hl
                      exact ih_6 (k + 1) _ (by omega) (by omega) hw (lv_sub hl [4, 5, 6, 7, 8, 9, 10, 0] rfl)
                    · refine lv_iload hx hb d_LE_paidIf_124 (lv_at hl 9 rfl) ?_
                      refine lv_iload_n hx hb d_LE_paidIf_126 rfl (lv_at hl 6 rfl) ?_
                      refine lv_iload hx hb d_LE_paidIf_127 (lv_at hl 0 rfl) ?_
                      refine lv_iload hx hb d_LE_paidIf_129 (lv_at hl 1 rfl) ?_
                      refine kRN hc hw lk_LE_54 (As := [.int (nI lw), .int (nI (lsc g fr hv a)), .int (nI (lsc g fr hv k))]) (rest := [.int (nI (pdS lw pj d fr to dy an (lsc g fr hv) k))]) (c_AP_pays l D g _ (lw) (lsc g fr hv a) (lsc g fr hv k) (by omega) (by omega) (by omega)) ⟨Nat.le_of_ble_eq_true rfl, Nat.le_of_ble_eq_true rfl⟩ ⟨Nat.le_refl _, Nat.le_refl _⟩ rfl hl rfl (Nat.le_of_ble_eq_true rfl) d_LE_paidIf_131 ?_
                      refine q_iadd hc d_LE_paidIf_134 ?_
                      refine lv_istore (lv' := [(6, .int (nI ((pdS lw pj d fr to dy an (lsc g fr hv) k) + (pys lw (lsc g fr hv a) (lsc g fr hv k))))), (10, .int (nI (lsc g fr hv a))), (9, .int (nI (lsc g fr hv k))), (8, .int (nI a)), (0, .ref (wad g 11)), (1, .int (nI pj)), (2, .int (nI d)), (3, .int (nI lw)), (4, .int ((-9))), (5, .int (nI 0)), (7, .int (nI k))]) hx hb d_LE_paidIf_135 hl (by decide) rfl (fun ls hl => ?_)
                      refine lv_iinc (v := nI (k + 1)) (lv' := [(7, .int (nI (k + 1))), (6, .int (nI ((pdS lw pj d fr to dy an (lsc g fr hv) k) + (pys lw (lsc g fr hv a) (lsc g fr hv k))))), (10, .int (nI (lsc g fr hv a))), (9, .int (nI (lsc g fr hv k))), (8, .int (nI a)), (0, .ref (wad g 11)), (1, .int (nI pj)), (2, .int (nI d)), (3, .int (nI lw)), (4, .int ((-9))), (5, .int (nI 0))]) hx hb d_LE_paidIf_137 hl (k := 10) rfl (nI_inc1 _) (by decide) rfl (fun ls hl => ?_)
                      refine lv_goto (tgt := 6) hx hb d_LE_paidIf_140 (by decide) ?_
                      have hl : lv_has ls 11 [(7, .int (nI (k + 1))), (6, .int (nI (pdS lw pj d fr to dy an (lsc g fr hv) (k + 1)))), (10, .int (nI (lsc g fr hv a))), (9, .int (nI (lsc g fr hv k))), (8, .int (nI a)), (0, .ref (wad g 11)), (1, .int (nI pj)), (2, .int (nI d)), (3, .int (nI lw)), (4, .int ((-9))), (5, .int (nI 0))] := by rw [show pdS lw pj d fr to dy an (lsc g fr hv) (k + 1) = (pdS lw pj d fr to dy an (lsc g fr hv) k) + (pys lw (lsc g fr hv a) (lsc g fr hv k)) from by (show pdS lw pj d fr to dy an (lsc g fr hv) k + pdT lw pj d fr to dy an (lsc g fr hv) k = _; (first | rw [pdT_n ho] | rw [pdT_s ho]); (try dsimp only); (repeat' split) <;> first | rfl | omega)]; exact hl
                      exact ih_6 (k + 1) _ (by omega) (by omega) hw (lv_sub hl [5, 6, 7, 8, 9, 10, 1, 0] rfl)
                  · refine lv_iload hx hb d_LE_paidIf_97 (lv_at hl 9 rfl) ?_
                    refine lv_iload_n hx hb d_LE_paidIf_99 rfl (lv_at hl 6 rfl) ?_
                    refine lv_iload hx hb d_LE_paidIf_100 (lv_at hl 1 rfl) ?_
                    refine lv_iload hx hb d_LE_paidIf_102 (lv_at hl 0 rfl) ?_
                    refine kRN hc hw lk_LE_54 (As := [.int (nI lw), .int (nI (lsc g fr hv k)), .int (nI (lsc g fr hv a))]) (rest := [.int (nI (pdS lw pj d fr to dy an (lsc g fr hv) k))]) (c_AP_pays l D g _ (lw) (lsc g fr hv k) (lsc g fr hv a) (by omega) (by omega) (by omega)) ⟨Nat.le_of_ble_eq_true rfl, Nat.le_of_ble_eq_true rfl⟩ ⟨Nat.le_refl _, Nat.le_refl _⟩ rfl hl rfl (Nat.le_of_ble_eq_true rfl) d_LE_paidIf_104 ?_
                    refine q_iadd hc d_LE_paidIf_107 ?_
                    refine lv_istore (lv' := [(6, .int (nI ((pdS lw pj d fr to dy an (lsc g fr hv) k) + (pys lw (lsc g fr hv k) (lsc g fr hv a))))), (10, .int (nI (lsc g fr hv a))), (9, .int (nI (lsc g fr hv k))), (8, .int (nI a)), (0, .ref (wad g 11)), (1, .int (nI pj)), (2, .int (nI d)), (3, .int (nI lw)), (4, .int ((-9))), (5, .int (nI 0)), (7, .int (nI k))]) hx hb d_LE_paidIf_108 hl (by decide) rfl (fun ls hl => ?_)
                    refine lv_goto (tgt := 137) hx hb d_LE_paidIf_110 (by decide) ?_
                    refine lv_iinc (v := nI (k + 1)) (lv' := [(7, .int (nI (k + 1))), (6, .int (nI ((pdS lw pj d fr to dy an (lsc g fr hv) k) + (pys lw (lsc g fr hv k) (lsc g fr hv a))))), (10, .int (nI (lsc g fr hv a))), (9, .int (nI (lsc g fr hv k))), (8, .int (nI a)), (0, .ref (wad g 11)), (1, .int (nI pj)), (2, .int (nI d)), (3, .int (nI lw)), (4, .int ((-9))), (5, .int (nI 0))]) hx hb d_LE_paidIf_137 hl (k := 10) rfl (nI_inc1 _) (by decide) rfl (fun ls hl => ?_)
                    refine lv_goto (tgt := 6) hx hb d_LE_paidIf_140 (by decide) ?_
                    have hl : lv_has ls 11 [(7, .int (nI (k + 1))), (6, .int (nI (pdS lw pj d fr to dy an (lsc g fr hv) (k + 1)))), (10, .int (nI (lsc g fr hv a))), (9, .int (nI (lsc g fr hv k))), (8, .int (nI a)), (0, .ref (wad g 11)), (1, .int (nI pj)), (2, .int (nI d)), (3, .int (nI lw)), (4, .int ((-9))), (5, .int (nI 0))] := by rw [show pdS lw pj d fr to dy an (lsc g fr hv) (k + 1) = (pdS lw pj d fr to dy an (lsc g fr hv) k) + (pys lw (lsc g fr hv k) (lsc g fr hv a)) from by (show pdS lw pj d fr to dy an (lsc g fr hv) k + pdT lw pj d fr to dy an (lsc g fr hv) k = _; (first | rw [pdT_n ho] | rw [pdT_s ho]); (try dsimp only); (repeat' split) <;> first | rfl | omega)]; exact hl
                    exact ih_6 (k + 1) _ (by omega) (by omega) hw (lv_sub hl [5, 6, 7, 8, 9, 10, 1, 0] rfl)
                · exact absurd c_6 (by omega)
              · exact absurd c_5 (by omega)
  have hl : lv_has ls 11 [(7, .int (nI 0)), (6, .int (nI (pdS lw pj d fr to dy an (lsc g fr hv) 0))), (0, .ref (wad g 11)), (1, .int (nI pj)), (2, .int (nI d)), (3, .int (nI lw)), (4, .int ((-9))), (5, .int (nI 0))] := by rw [show pdS lw pj d fr to dy an (lsc g fr hv) 0 = 0 from by rfl]; exact hl
  exact loop_6 _ 0 _ (Nat.lt_succ_self _) (by omega) hw (lv_sub hl [2, 3, 4, 5, 6, 7, 1, 0] rfl)
set_option maxHeartbeats 4000000 in
theorem c_LE_paidIf_s (l : Launch) (D : va_G) (g : wG) (F : wF) (pc cn : Nat) (fr to hv dy : Nat → Nat) (an af : Nat → Option Nat) (hI : LI pc cn fr to hv dy an af) (hL : LC g F cn fr to hv dy an af) (lw pj d : Nat) (hlw : lw ≤ 2) (hpc : pc ≤ 6) (hpj : pj < pc) (hd : d ≤ 99) (x oth : Nat) (hx1 : x < cn) (hoth : oth ≤ 200) : CR l y_LE_paidIf b_LE_paidIf 11 (Option.some Jvm.ClassFile.FieldType.int) 1 D g F [.ref (wad g 11), .int (nI pj), .int (nI d), .int (nI lw), .int (nI x), .int (nI oth)] (.int (nI (pdS lw pj d fr to dy an (fun i => if i = x then oth else lsc g fr hv i) cn))) := by
  refine CR.start rfl (Nat.le_of_ble_eq_true rfl) ?_
  intro p e s m args below meth c A ls hc hr hlocks hw hl
  have hl : lv_has ls 11 [(0, .ref (wad g 11)), (1, .int (nI pj)), (2, .int (nI d)), (3, .int (nI lw)), (4, .int (nI x)), (5, .int (nI oth))] := hl
  have hx := hc.1
  have hb := hc.2.1
  have hcn := hI.1
  have hs := lsc_le (g := g) hI
  refine lv_iconst (v := nI 0) hx hb d_LE_paidIf_0 (by decide) ?_
  refine lv_istore (lv' := [(6, .int (nI 0)), (0, .ref (wad g 11)), (1, .int (nI pj)), (2, .int (nI d)), (3, .int (nI lw)), (4, .int (nI x)), (5, .int (nI oth))]) hx hb d_LE_paidIf_1 hl (by decide) rfl (fun ls hl => ?_)
  refine lv_iconst (v := nI 0) hx hb d_LE_paidIf_3 (by decide) ?_
  refine lv_istore (lv' := [(7, .int (nI 0)), (6, .int (nI 0)), (0, .ref (wad g 11)), (1, .int (nI pj)), (2, .int (nI d)), (3, .int (nI lw)), (4, .int (nI x)), (5, .int (nI oth))]) hx hb d_LE_paidIf_4 hl (by decide) rfl (fun ls hl => ?_)
  have loop_6 : ∀ (n_6 : Nat) (k : Nat)  (ls : Array Slot), (cn - k) < n_6 → (k ≤ cn) → Wd D g F A s.heap s.heap [] s → lv_has ls 11 [(0, .ref (wad g 11)), (1, .int (nI pj)), (2, .int (nI d)), (3, .int (nI lw)), (4, .int (nI x)), (5, .int (nI oth)), (6, .int (nI (pdS lw pj d fr to dy an (fun i => if i = x then oth else lsc g fr hv i) k))), (7, .int (nI k))] → W p l e (rmc 1 0 0) s m args below meth c s.heap [] 0 0 (MQ below (k2_QcV (.int (nI (pdS lw pj d fr to dy an (fun i => if i = x then oth else lsc g fr hv i) cn)))) args s 0 0 (fun _ => False)) (F0 m 6 ls []) := by
    intro n_6
    induction n_6 with
    | zero => intro k  ls hm; exact absurd hm (Nat.not_lt_zero _)
    | succ n_6 ih_6 =>
      intro k  ls hm_6 hk hw hl
      refine lv_iload hx hb d_LE_paidIf_6 (lv_at hl 7 rfl) ?_
      refine lv_aload_n hx hb d_LE_paidIf_8 rfl (lv_at hl 0 rfl) ?_
      refine gf_LE_33 hc hw d_LE_paidIf_9 (v := .int (nI cn)) (congrArg Value.int (hL.1)) ?_
      refine q_icmp_ge (tgt := 143) hc (by omega) (by omega) d_LE_paidIf_12 (by decide) (fun c_1 => ?_) (fun c_1 => ?_)
      · have hkc : k = cn := by omega
        subst hkc
        refine lv_iload hx hb d_LE_paidIf_143 (lv_at hl 6 rfl) ?_
        exact R_i hc hr hlocks (rfl) d_LE_paidIf_145
      · obtain ⟨⟨hi1, hi2, hi3, hi4, hi5, hi6⟩, hi7, hi8⟩ := hI.2 k (by omega)
        refine lv_aload_n hx hb d_LE_paidIf_15 rfl (lv_at hl 0 rfl) ?_
        refine gf_LE_27 hc hw d_LE_paidIf_16 ?_
        refine lv_iload hx hb d_LE_paidIf_19 (lv_at hl 7 rfl) ?_
        rcases ho : an k with _ | a
        · refine r_iald hc hw (h := 17) (n := 24) (i := k) (fun _ => rfl) (by omega) (by omega) (by decide) d_LE_paidIf_21 (v := .int ((-9))) (congrArg Value.int ((hL.2 (k) (by omega)).2.2.2.2.2.1.trans (by rw [ho]; rfl))) ?_
          refine lv_istore (lv' := [(8, .int ((-9))), (0, .ref (wad g 11)), (1, .int (nI pj)), (2, .int (nI d)), (3, .int (nI lw)), (4, .int (nI x)), (5, .int (nI oth)), (6, .int (nI (pdS lw pj d fr to dy an (fun i => if i = x then oth else lsc g fr hv i) k))), (7, .int (nI k))]) hx hb d_LE_paidIf_22 hl (by decide) rfl (fun ls hl => ?_)
          refine lv_aload_n hx hb d_LE_paidIf_24 rfl (lv_at hl 1 rfl) ?_
          refine lv_iload hx hb d_LE_paidIf_25 (lv_at hl 0 rfl) ?_
          refine kRV hc hw lk_LE_37 (As := [.int ((-9))]) (rest := []) (c_LE_has l D g _ cn hL.1 hI.1 ((-9))) (rc_LE hw) ⟨Nat.le_of_ble_eq_true rfl, Nat.le_of_ble_eq_true rfl⟩ ⟨Nat.le_refl _, Nat.le_refl _⟩ rfl hl rfl (Nat.le_of_ble_eq_true rfl) d_LE_paidIf_27 ?_
          refine b_if_eq (tgt := 137) hc d_LE_paidIf_30 (by decide) (fun c_2 => ?_) (fun c_2 => ?_)
          · try unfold inN at c_2
            refine lv_iinc (v := nI (k + 1)) (lv' := [(7, .int (nI (k + 1))), (8, .int ((-9))), (0, .ref (wad g 11)), (1, .int (nI pj)), (2, .int (nI d)), (3, .int (nI lw)), (4, .int (nI x)), (5, .int (nI oth)), (6, .int (nI (pdS lw pj d fr to dy an (fun i => if i = x then oth else lsc g fr hv i) k)))]) hx hb d_LE_paidIf_137 hl (k := 8) rfl (nI_inc1 _) (by decide) rfl (fun ls hl => ?_)
            refine lv_goto (tgt := 6) hx hb d_LE_paidIf_140 (by decide) ?_
            have hl : lv_has ls 11 [(7, .int (nI (k + 1))), (8, .int ((-9))), (0, .ref (wad g 11)), (1, .int (nI pj)), (2, .int (nI d)), (3, .int (nI lw)), (4, .int (nI x)), (5, .int (nI oth)), (6, .int (nI (pdS lw pj d fr to dy an (fun i => if i = x then oth else lsc g fr hv i) (k + 1))))] := by rw [show pdS lw pj d fr to dy an (fun i => if i = x then oth else lsc g fr hv i) (k + 1) = pdS lw pj d fr to dy an (fun i => if i = x then oth else lsc g fr hv i) k from by (show pdS lw pj d fr to dy an (fun i => if i = x then oth else lsc g fr hv i) k + pdT lw pj d fr to dy an (fun i => if i = x then oth else lsc g fr hv i) k = _; (first | rw [pdT_n ho] | rw [pdT_s ho]); (try dsimp only); (repeat' split) <;> first | rfl | omega)]; exact hl
            exact ih_6 (k + 1) _ (by omega) (by omega) hw (lv_sub hl [2, 3, 4, 5, 6, 7, 8, 0] rfl)
          · exact absurd c_2.1 (by decide)
        · obtain ⟨ha1, ha2, ha3, ha4, ha5⟩ := (hI.2 k (by omega)).2.1 a ho
          have hda := (hI.2 a (by omega)).1.2.2.2.2.2
          have hs1 := hs k (by omega)
          have hs2 := hs a (by omega)
          refine r_iald hc hw (h := 17) (n := 24) (i := k) (fun _ => rfl) (by omega) (by omega) (by decide) d_LE_paidIf_21 (v := .int (nI a)) (congrArg Value.int ((hL.2 (k) (by omega)).2.2.2.2.2.1.trans (by rw [ho]; rfl))) ?_
          refine lv_istore (lv' := [(8, .int (nI a)), (0, .ref (wad g 11)), (1, .int (nI pj)), (2, .int (nI d)), (3, .int (nI lw)), (4, .int (nI x)), (5, .int (nI oth)), (6, .int (nI (pdS lw pj d fr to dy an (fun i => if i = x then oth else lsc g fr hv i) k))), (7, .int (nI k))]) hx hb d_LE_paidIf_22 hl (by decide) rfl (fun ls hl => ?_)
          refine lv_aload_n hx hb d_LE_paidIf_24 rfl (lv_at hl 1 rfl) ?_
          refine lv_iload hx hb d_LE_paidIf_25 (lv_at hl 0 rfl) ?_
          refine kRV hc hw lk_LE_37 (As := [.int (nI a)]) (rest := []) (c_LE_has l D g _ cn hL.1 hI.1 (nI a)) (rc_LE hw) ⟨Nat.le_of_ble_eq_true rfl, Nat.le_of_ble_eq_true rfl⟩ ⟨Nat.le_refl _, Nat.le_refl _⟩ rfl hl rfl (Nat.le_of_ble_eq_true rfl) d_LE_paidIf_27 ?_
          refine b_if_eq (tgt := 137) hc d_LE_paidIf_30 (by decide) (fun c_3 => ?_) (fun c_3 => ?_)
          · exact absurd ((inN_nI (by omega)).mpr ha1) c_3
          · try unfold inN at c_3
            refine lv_aload_n hx hb d_LE_paidIf_33 rfl (lv_at hl 1 rfl) ?_
            refine gf_LE_21 hc hw d_LE_paidIf_34 ?_
            refine lv_iload hx hb d_LE_paidIf_37 (lv_at hl 0 rfl) ?_
            refine r_iald hc hw (h := 15) (n := 24) (i := a) (fun _ => rfl) (by omega) (by omega) (by decide) d_LE_paidIf_39 (v := .int (nI (dy a))) (congrArg Value.int ((hL.2 (a) (by omega)).2.2.2.1)) ?_
            refine lv_iload_n hx hb d_LE_paidIf_40 rfl (lv_at hl 3 rfl) ?_
            refine q_icmp_gt (tgt := 137) hc (by omega) (by omega) d_LE_paidIf_41 (by decide) (fun c_4 => ?_) (fun c_4 => ?_)
            · refine lv_iinc (v := nI (k + 1)) (lv' := [(7, .int (nI (k + 1))), (8, .int (nI a)), (0, .ref (wad g 11)), (1, .int (nI pj)), (2, .int (nI d)), (3, .int (nI lw)), (4, .int (nI x)), (5, .int (nI oth)), (6, .int (nI (pdS lw pj d fr to dy an (fun i => if i = x then oth else lsc g fr hv i) k)))]) hx hb d_LE_paidIf_137 hl (k := 8) rfl (nI_inc1 _) (by decide) rfl (fun ls hl => ?_)
              refine lv_goto (tgt := 6) hx hb d_LE_paidIf_140 (by decide) ?_
              have hl : lv_has ls 11 [(7, .int (nI (k + 1))), (8, .int (nI a)), (0, .ref (wad g 11)), (1, .int (nI pj)), (2, .int (nI d)), (3, .int (nI lw)), (4, .int (nI x)), (5, .int (nI oth)), (6, .int (nI (pdS lw pj d fr to dy an (fun i => if i = x then oth else lsc g fr hv i) (k + 1))))] := by rw [show pdS lw pj d fr to dy an (fun i => if i = x then oth else lsc g fr hv i) (k + 1) = pdS lw pj d fr to dy an (fun i => if i = x then oth else lsc g fr hv i) k from by (show pdS lw pj d fr to dy an (fun i => if i = x then oth else lsc g fr hv i) k + pdT lw pj d fr to dy an (fun i => if i = x then oth else lsc g fr hv i) k = _; (first | rw [pdT_n ho] | rw [pdT_s ho]); (try dsimp only); (repeat' split) <;> first | rfl | omega)]; exact hl
              exact ih_6 (k + 1) _ (by omega) (by omega) hw (lv_sub hl [2, 3, 4, 5, 6, 7, 8, 0] rfl)
            · refine lv_iload hx hb d_LE_paidIf_44 (lv_at hl 8 rfl) ?_
              refine lv_iload hx hb d_LE_paidIf_46 (lv_at hl 5 rfl) ?_
              refine q_icmp_ne (tgt := 56) hc (by omega) (by omega) d_LE_paidIf_48 (by decide) (fun c_5 => ?_) (fun c_5 => ?_)
              · refine lv_aload_n hx hb d_LE_paidIf_56 rfl (lv_at hl 1 rfl) ?_
                refine gf_LE_24 hc hw d_LE_paidIf_57 ?_
                refine lv_iload hx hb d_LE_paidIf_60 (lv_at hl 8 rfl) ?_
                refine r_iald hc hw (h := 16) (n := 24) (i := k) (fun _ => rfl) (by omega) (by omega) (by decide) d_LE_paidIf_62 (v := .int (nI (lsc g fr hv k))) (congrArg Value.int ((hL.2 (k) (by omega)).2.2.2.2.1)) ?_
                refine lv_istore (lv' := [(9, .int (nI (lsc g fr hv k))), (8, .int (nI a)), (0, .ref (wad g 11)), (1, .int (nI pj)), (2, .int (nI d)), (3, .int (nI lw)), (4, .int (nI x)), (5, .int (nI oth)), (6, .int (nI (pdS lw pj d fr to dy an (fun i => if i = x then oth else lsc g fr hv i) k))), (7, .int (nI k))]) hx hb d_LE_paidIf_63 hl (by decide) rfl (fun ls hl => ?_)
                refine lv_iload hx hb d_LE_paidIf_65 (lv_at hl 1 rfl) ?_
                refine lv_iload hx hb d_LE_paidIf_67 (lv_at hl 6 rfl) ?_
                refine q_icmp_ne (tgt := 77) hc (by omega) (by omega) d_LE_paidIf_69 (by decide) (fun c_6 => ?_) (fun c_6 => ?_)
                · refine lv_aload_n hx hb d_LE_paidIf_77 rfl (lv_at hl 2 rfl) ?_
                  refine gf_LE_24 hc hw d_LE_paidIf_78 ?_
                  refine lv_iload hx hb d_LE_paidIf_81 (lv_at hl 1 rfl) ?_
                  refine r_iald hc hw (h := 16) (n := 24) (i := a) (fun _ => rfl) (by omega) (by omega) (by decide) d_LE_paidIf_83 (v := .int (nI (lsc g fr hv a))) (congrArg Value.int ((hL.2 (a) (by omega)).2.2.2.2.1)) ?_
                  refine lv_istore (lv' := [(10, .int (nI (lsc g fr hv a))), (9, .int (nI (lsc g fr hv k))), (8, .int (nI a)), (0, .ref (wad g 11)), (1, .int (nI pj)), (2, .int (nI d)), (3, .int (nI lw)), (4, .int (nI x)), (5, .int (nI oth)), (6, .int (nI (pdS lw pj d fr to dy an (fun i => if i = x then oth else lsc g fr hv i) k))), (7, .int (nI k))]) hx hb d_LE_paidIf_84 hl (by decide) rfl (fun ls hl => ?_)
                  refine lv_aload_n hx hb d_LE_paidIf_86 rfl (lv_at hl 3 rfl) ?_
                  refine gf_LE_9 hc hw d_LE_paidIf_87 ?_
                  refine lv_iload hx hb d_LE_paidIf_90 (lv_at hl 10 rfl) ?_
                  refine r_iald hc hw (h := 12) (n := 24) (i := k) (fun _ => rfl) (by omega) (by omega) (by decide) d_LE_paidIf_92 (v := .int (nI (fr k))) (congrArg Value.int ((hL.2 (k) (by omega)).1)) ?_
                  refine lv_iload_n hx hb d_LE_paidIf_93 rfl (lv_at hl 4 rfl) ?_
                  refine q_icmp_ne (tgt := 113) hc (by omega) (by omega) d_LE_paidIf_94 (by decide) (fun c_7 => ?_) (fun c_7 => ?_)
                  · refine lv_aload_n hx hb d_LE_paidIf_113 rfl (lv_at hl 3 rfl) ?_
                    refine gf_LE_15 hc hw d_LE_paidIf_114 ?_
                    refine lv_iload hx hb d_LE_paidIf_117 (lv_at hl 10 rfl) ?_
                    refine r_iald hc hw (h := 13) (n := 24) (i := k) (fun _ => rfl) (by omega) (by omega) (by decide) d_LE_paidIf_119 (v := .int (nI (to k))) (congrArg Value.int ((hL.2 (k) (by omega)).2.1)) ?_
                    refine lv_iload_n hx hb d_LE_paidIf_120 rfl (lv_at hl 4 rfl) ?_
                    refine q_icmp_ne (tgt := 137) hc (by omega) (by omega) d_LE_paidIf_121 (by decide) (fun c_8 => ?_) (fun c_8 => ?_)
                    · refine lv_iinc (v := nI (k + 1)) (lv' := [(7, .int (nI (k + 1))), (10, .int (nI (lsc g fr hv a))), (9, .int (nI (lsc g fr hv k))), (8, .int (nI a)), (0, .ref (wad g 11)), (1, .int (nI pj)), (2, .int (nI d)), (3, .int (nI lw)), (4, .int (nI x)), (5, .int (nI oth)), (6, .int (nI (pdS lw pj d fr to dy an (fun i => if i = x then oth else lsc g fr hv i) k)))]) hx hb d_LE_paidIf_137 hl (k := 10) rfl (nI_inc1 _) (by decide) rfl (fun ls hl => ?_)
                      refine lv_goto (tgt := 6) hx hb d_LE_paidIf_140 (by decide) ?_
                      have hl : lv_has ls 11 [(7, .int (nI (k + 1))), (10, .int (nI (lsc g fr hv a))), (9, .int (nI (lsc g fr hv k))), (8, .int (nI a)), (0, .ref (wad g 11)), (1, .int (nI pj)), (2, .int (nI d)), (3, .int (nI lw)), (4, .int (nI x)), (5, .int (nI oth)), (6, .int (nI (pdS lw pj d fr to dy an (fun i => if i = x then oth else lsc g fr hv i) (k + 1))))] := by rw [show pdS lw pj d fr to dy an (fun i => if i = x then oth else lsc g fr hv i) (k + 1) = pdS lw pj d fr to dy an (fun i => if i = x then oth else lsc g fr hv i) k from by (show pdS lw pj d fr to dy an (fun i => if i = x then oth else lsc g fr hv i) k + pdT lw pj d fr to dy an (fun i => if i = x then oth else lsc g fr hv i) k = _; (first | rw [pdT_n ho] | rw [pdT_s ho]); (try dsimp only); (repeat' split) <;> first | rfl | omega)]; exact hl
                      exact ih_6 (k + 1) _ (by omega) (by omega) hw (lv_sub hl [4, 5, 6, 7, 8, 9, 10, 0] rfl)
                    · refine lv_iload hx hb d_LE_paidIf_124 (lv_at hl 9 rfl) ?_
                      refine lv_iload_n hx hb d_LE_paidIf_126 rfl (lv_at hl 6 rfl) ?_
                      refine lv_iload hx hb d_LE_paidIf_127 (lv_at hl 0 rfl) ?_
                      refine lv_iload hx hb d_LE_paidIf_129 (lv_at hl 1 rfl) ?_
                      refine kRN hc hw lk_LE_54 (As := [.int (nI lw), .int (nI (lsc g fr hv a)), .int (nI (lsc g fr hv k))]) (rest := [.int (nI (pdS lw pj d fr to dy an (fun i => if i = x then oth else lsc g fr hv i) k))]) (c_AP_pays l D g _ (lw) (lsc g fr hv a) (lsc g fr hv k) (by omega) (by omega) (by omega)) ⟨Nat.le_of_ble_eq_true rfl, Nat.le_of_ble_eq_true rfl⟩ ⟨Nat.le_refl _, Nat.le_refl _⟩ rfl hl rfl (Nat.le_of_ble_eq_true rfl) d_LE_paidIf_131 ?_
                      refine q_iadd hc d_LE_paidIf_134 ?_
                      refine lv_istore (lv' := [(6, .int (nI ((pdS lw pj d fr to dy an (fun i => if i = x then oth else lsc g fr hv i) k) + (pys lw (lsc g fr hv a) (lsc g fr hv k))))), (10, .int (nI (lsc g fr hv a))), (9, .int (nI (lsc g fr hv k))), (8, .int (nI a)), (0, .ref (wad g 11)), (1, .int (nI pj)), (2, .int (nI d)), (3, .int (nI lw)), (4, .int (nI x)), (5, .int (nI oth)), (7, .int (nI k))]) hx hb d_LE_paidIf_135 hl (by decide) rfl (fun ls hl => ?_)
                      refine lv_iinc (v := nI (k + 1)) (lv' := [(7, .int (nI (k + 1))), (6, .int (nI ((pdS lw pj d fr to dy an (fun i => if i = x then oth else lsc g fr hv i) k) + (pys lw (lsc g fr hv a) (lsc g fr hv k))))), (10, .int (nI (lsc g fr hv a))), (9, .int (nI (lsc g fr hv k))), (8, .int (nI a)), (0, .ref (wad g 11)), (1, .int (nI pj)), (2, .int (nI d)), (3, .int (nI lw)), (4, .int (nI x)), (5, .int (nI oth))]) hx hb d_LE_paidIf_137 hl (k := 10) rfl (nI_inc1 _) (by decide) rfl (fun ls hl => ?_)
                      refine lv_goto (tgt := 6) hx hb d_LE_paidIf_140 (by decide) ?_
                      have hl : lv_has ls 11 [(7, .int (nI (k + 1))), (6, .int (nI (pdS lw pj d fr to dy an (fun i => if i = x then oth else lsc g fr hv i) (k + 1)))), (10, .int (nI (lsc g fr hv a))), (9, .int (nI (lsc g fr hv k))), (8, .int (nI a)), (0, .ref (wad g 11)), (1, .int (nI pj)), (2, .int (nI d)), (3, .int (nI lw)), (4, .int (nI x)), (5, .int (nI oth))] := by rw [show pdS lw pj d fr to dy an (fun i => if i = x then oth else lsc g fr hv i) (k + 1) = (pdS lw pj d fr to dy an (fun i => if i = x then oth else lsc g fr hv i) k) + (pys lw (lsc g fr hv a) (lsc g fr hv k)) from by (show pdS lw pj d fr to dy an (fun i => if i = x then oth else lsc g fr hv i) k + pdT lw pj d fr to dy an (fun i => if i = x then oth else lsc g fr hv i) k = _; (first | rw [pdT_n ho] | rw [pdT_s ho]); (try dsimp only); (repeat' split) <;> first | rfl | omega)]; exact hl
                      exact ih_6 (k + 1) _ (by omega) (by omega) hw (lv_sub hl [5, 6, 7, 8, 9, 10, 1, 0] rfl)
                  · refine lv_iload hx hb d_LE_paidIf_97 (lv_at hl 9 rfl) ?_
                    refine lv_iload_n hx hb d_LE_paidIf_99 rfl (lv_at hl 6 rfl) ?_
                    refine lv_iload hx hb d_LE_paidIf_100 (lv_at hl 1 rfl) ?_
                    refine lv_iload hx hb d_LE_paidIf_102 (lv_at hl 0 rfl) ?_
                    refine kRN hc hw lk_LE_54 (As := [.int (nI lw), .int (nI (lsc g fr hv k)), .int (nI (lsc g fr hv a))]) (rest := [.int (nI (pdS lw pj d fr to dy an (fun i => if i = x then oth else lsc g fr hv i) k))]) (c_AP_pays l D g _ (lw) (lsc g fr hv k) (lsc g fr hv a) (by omega) (by omega) (by omega)) ⟨Nat.le_of_ble_eq_true rfl, Nat.le_of_ble_eq_true rfl⟩ ⟨Nat.le_refl _, Nat.le_refl _⟩ rfl hl rfl (Nat.le_of_ble_eq_true rfl) d_LE_paidIf_104 ?_
                    refine q_iadd hc d_LE_paidIf_107 ?_
                    refine lv_istore (lv' := [(6, .int (nI ((pdS lw pj d fr to dy an (fun i => if i = x then oth else lsc g fr hv i) k) + (pys lw (lsc g fr hv k) (lsc g fr hv a))))), (10, .int (nI (lsc g fr hv a))), (9, .int (nI (lsc g fr hv k))), (8, .int (nI a)), (0, .ref (wad g 11)), (1, .int (nI pj)), (2, .int (nI d)), (3, .int (nI lw)), (4, .int (nI x)), (5, .int (nI oth)), (7, .int (nI k))]) hx hb d_LE_paidIf_108 hl (by decide) rfl (fun ls hl => ?_)
                    refine lv_goto (tgt := 137) hx hb d_LE_paidIf_110 (by decide) ?_
                    refine lv_iinc (v := nI (k + 1)) (lv' := [(7, .int (nI (k + 1))), (6, .int (nI ((pdS lw pj d fr to dy an (fun i => if i = x then oth else lsc g fr hv i) k) + (pys lw (lsc g fr hv k) (lsc g fr hv a))))), (10, .int (nI (lsc g fr hv a))), (9, .int (nI (lsc g fr hv k))), (8, .int (nI a)), (0, .ref (wad g 11)), (1, .int (nI pj)), (2, .int (nI d)), (3, .int (nI lw)), (4, .int (nI x)), (5, .int (nI oth))]) hx hb d_LE_paidIf_137 hl (k := 10) rfl (nI_inc1 _) (by decide) rfl (fun ls hl => ?_)
                    refine lv_goto (tgt := 6) hx hb d_LE_paidIf_140 (by decide) ?_
                    have hl : lv_has ls 11 [(7, .int (nI (k + 1))), (6, .int (nI (pdS lw pj d fr to dy an (fun i => if i = x then oth else lsc g fr hv i) (k + 1)))), (10, .int (nI (lsc g fr hv a))), (9, .int (nI (lsc g fr hv k))), (8, .int (nI a)), (0, .ref (wad g 11)), (1, .int (nI pj)), (2, .int (nI d)), (3, .int (nI lw)), (4, .int (nI x)), (5, .int (nI oth))] := by rw [show pdS lw pj d fr to dy an (fun i => if i = x then oth else lsc g fr hv i) (k + 1) = (pdS lw pj d fr to dy an (fun i => if i = x then oth else lsc g fr hv i) k) + (pys lw (lsc g fr hv k) (lsc g fr hv a)) from by (show pdS lw pj d fr to dy an (fun i => if i = x then oth else lsc g fr hv i) k + pdT lw pj d fr to dy an (fun i => if i = x then oth else lsc g fr hv i) k = _; (first | rw [pdT_n ho] | rw [pdT_s ho]); (try dsimp only); (repeat' split) <;> first | rfl | omega)]; exact hl
                    exact ih_6 (k + 1) _ (by omega) (by omega) hw (lv_sub hl [5, 6, 7, 8, 9, 10, 1, 0] rfl)
                · refine lv_iload hx hb d_LE_paidIf_72 (lv_at hl 7 rfl) ?_
                  refine lv_goto (tgt := 84) hx hb d_LE_paidIf_74 (by decide) ?_
                  refine lv_istore (lv' := [(10, .int (nI oth)), (9, .int (nI (lsc g fr hv k))), (8, .int (nI a)), (0, .ref (wad g 11)), (1, .int (nI pj)), (2, .int (nI d)), (3, .int (nI lw)), (4, .int (nI x)), (5, .int (nI oth)), (6, .int (nI (pdS lw pj d fr to dy an (fun i => if i = x then oth else lsc g fr hv i) k))), (7, .int (nI k))]) hx hb d_LE_paidIf_84 hl (by decide) rfl (fun ls hl => ?_)
                  refine lv_aload_n hx hb d_LE_paidIf_86 rfl (lv_at hl 3 rfl) ?_
                  refine gf_LE_9 hc hw d_LE_paidIf_87 ?_
                  refine lv_iload hx hb d_LE_paidIf_90 (lv_at hl 10 rfl) ?_
                  refine r_iald hc hw (h := 12) (n := 24) (i := k) (fun _ => rfl) (by omega) (by omega) (by decide) d_LE_paidIf_92 (v := .int (nI (fr k))) (congrArg Value.int ((hL.2 (k) (by omega)).1)) ?_
                  refine lv_iload_n hx hb d_LE_paidIf_93 rfl (lv_at hl 4 rfl) ?_
                  refine q_icmp_ne (tgt := 113) hc (by omega) (by omega) d_LE_paidIf_94 (by decide) (fun c_9 => ?_) (fun c_9 => ?_)
                  · refine lv_aload_n hx hb d_LE_paidIf_113 rfl (lv_at hl 3 rfl) ?_
                    refine gf_LE_15 hc hw d_LE_paidIf_114 ?_
                    refine lv_iload hx hb d_LE_paidIf_117 (lv_at hl 10 rfl) ?_
                    refine r_iald hc hw (h := 13) (n := 24) (i := k) (fun _ => rfl) (by omega) (by omega) (by decide) d_LE_paidIf_119 (v := .int (nI (to k))) (congrArg Value.int ((hL.2 (k) (by omega)).2.1)) ?_
                    refine lv_iload_n hx hb d_LE_paidIf_120 rfl (lv_at hl 4 rfl) ?_
                    refine q_icmp_ne (tgt := 137) hc (by omega) (by omega) d_LE_paidIf_121 (by decide) (fun c_10 => ?_) (fun c_10 => ?_)
                    · refine lv_iinc (v := nI (k + 1)) (lv' := [(7, .int (nI (k + 1))), (10, .int (nI oth)), (9, .int (nI (lsc g fr hv k))), (8, .int (nI a)), (0, .ref (wad g 11)), (1, .int (nI pj)), (2, .int (nI d)), (3, .int (nI lw)), (4, .int (nI x)), (5, .int (nI oth)), (6, .int (nI (pdS lw pj d fr to dy an (fun i => if i = x then oth else lsc g fr hv i) k)))]) hx hb d_LE_paidIf_137 hl (k := 10) rfl (nI_inc1 _) (by decide) rfl (fun ls hl => ?_)
                      refine lv_goto (tgt := 6) hx hb d_LE_paidIf_140 (by decide) ?_
                      have hl : lv_has ls 11 [(7, .int (nI (k + 1))), (10, .int (nI oth)), (9, .int (nI (lsc g fr hv k))), (8, .int (nI a)), (0, .ref (wad g 11)), (1, .int (nI pj)), (2, .int (nI d)), (3, .int (nI lw)), (4, .int (nI x)), (5, .int (nI oth)), (6, .int (nI (pdS lw pj d fr to dy an (fun i => if i = x then oth else lsc g fr hv i) (k + 1))))] := by rw [show pdS lw pj d fr to dy an (fun i => if i = x then oth else lsc g fr hv i) (k + 1) = pdS lw pj d fr to dy an (fun i => if i = x then oth else lsc g fr hv i) k from by (show pdS lw pj d fr to dy an (fun i => if i = x then oth else lsc g fr hv i) k + pdT lw pj d fr to dy an (fun i => if i = x then oth else lsc g fr hv i) k = _; (first | rw [pdT_n ho] | rw [pdT_s ho]); (try dsimp only); (repeat' split) <;> first | rfl | omega)]; exact hl
                      exact ih_6 (k + 1) _ (by omega) (by omega) hw (lv_sub hl [4, 5, 6, 7, 8, 9, 10, 0] rfl)
                    · refine lv_iload hx hb d_LE_paidIf_124 (lv_at hl 9 rfl) ?_
                      refine lv_iload_n hx hb d_LE_paidIf_126 rfl (lv_at hl 6 rfl) ?_
                      refine lv_iload hx hb d_LE_paidIf_127 (lv_at hl 0 rfl) ?_
                      refine lv_iload hx hb d_LE_paidIf_129 (lv_at hl 1 rfl) ?_
                      refine kRN hc hw lk_LE_54 (As := [.int (nI lw), .int (nI oth), .int (nI (lsc g fr hv k))]) (rest := [.int (nI (pdS lw pj d fr to dy an (fun i => if i = x then oth else lsc g fr hv i) k))]) (c_AP_pays l D g _ (lw) (oth) (lsc g fr hv k) (by omega) (by omega) (by omega)) ⟨Nat.le_of_ble_eq_true rfl, Nat.le_of_ble_eq_true rfl⟩ ⟨Nat.le_refl _, Nat.le_refl _⟩ rfl hl rfl (Nat.le_of_ble_eq_true rfl) d_LE_paidIf_131 ?_
                      refine q_iadd hc d_LE_paidIf_134 ?_
                      refine lv_istore (lv' := [(6, .int (nI ((pdS lw pj d fr to dy an (fun i => if i = x then oth else lsc g fr hv i) k) + (pys lw oth (lsc g fr hv k))))), (10, .int (nI oth)), (9, .int (nI (lsc g fr hv k))), (8, .int (nI a)), (0, .ref (wad g 11)), (1, .int (nI pj)), (2, .int (nI d)), (3, .int (nI lw)), (4, .int (nI x)), (5, .int (nI oth)), (7, .int (nI k))]) hx hb d_LE_paidIf_135 hl (by decide) rfl (fun ls hl => ?_)
                      refine lv_iinc (v := nI (k + 1)) (lv' := [(7, .int (nI (k + 1))), (6, .int (nI ((pdS lw pj d fr to dy an (fun i => if i = x then oth else lsc g fr hv i) k) + (pys lw oth (lsc g fr hv k))))), (10, .int (nI oth)), (9, .int (nI (lsc g fr hv k))), (8, .int (nI a)), (0, .ref (wad g 11)), (1, .int (nI pj)), (2, .int (nI d)), (3, .int (nI lw)), (4, .int (nI x)), (5, .int (nI oth))]) hx hb d_LE_paidIf_137 hl (k := 10) rfl (nI_inc1 _) (by decide) rfl (fun ls hl => ?_)
                      refine lv_goto (tgt := 6) hx hb d_LE_paidIf_140 (by decide) ?_
                      have hl : lv_has ls 11 [(7, .int (nI (k + 1))), (6, .int (nI (pdS lw pj d fr to dy an (fun i => if i = x then oth else lsc g fr hv i) (k + 1)))), (10, .int (nI oth)), (9, .int (nI (lsc g fr hv k))), (8, .int (nI a)), (0, .ref (wad g 11)), (1, .int (nI pj)), (2, .int (nI d)), (3, .int (nI lw)), (4, .int (nI x)), (5, .int (nI oth))] := by rw [show pdS lw pj d fr to dy an (fun i => if i = x then oth else lsc g fr hv i) (k + 1) = (pdS lw pj d fr to dy an (fun i => if i = x then oth else lsc g fr hv i) k) + (pys lw oth (lsc g fr hv k)) from by (show pdS lw pj d fr to dy an (fun i => if i = x then oth else lsc g fr hv i) k + pdT lw pj d fr to dy an (fun i => if i = x then oth else lsc g fr hv i) k = _; (first | rw [pdT_n ho] | rw [pdT_s ho]); (try dsimp only); (repeat' split) <;> first | rfl | omega)]; exact hl
                      exact ih_6 (k + 1) _ (by omega) (by omega) hw (lv_sub hl [5, 6, 7, 8, 9, 10, 1, 0] rfl)
                  · refine lv_iload hx hb d_LE_paidIf_97 (lv_at hl 9 rfl) ?_
                    refine lv_iload_n hx hb d_LE_paidIf_99 rfl (lv_at hl 6 rfl) ?_
                    refine lv_iload hx hb d_LE_paidIf_100 (lv_at hl 1 rfl) ?_
                    refine lv_iload hx hb d_LE_paidIf_102 (lv_at hl 0 rfl) ?_
                    refine kRN hc hw lk_LE_54 (As := [.int (nI lw), .int (nI (lsc g fr hv k)), .int (nI oth)]) (rest := [.int (nI (pdS lw pj d fr to dy an (fun i => if i = x then oth else lsc g fr hv i) k))]) (c_AP_pays l D g _ (lw) (lsc g fr hv k) (oth) (by omega) (by omega) (by omega)) ⟨Nat.le_of_ble_eq_true rfl, Nat.le_of_ble_eq_true rfl⟩ ⟨Nat.le_refl _, Nat.le_refl _⟩ rfl hl rfl (Nat.le_of_ble_eq_true rfl) d_LE_paidIf_104 ?_
                    refine q_iadd hc d_LE_paidIf_107 ?_
                    refine lv_istore (lv' := [(6, .int (nI ((pdS lw pj d fr to dy an (fun i => if i = x then oth else lsc g fr hv i) k) + (pys lw (lsc g fr hv k) oth)))), (10, .int (nI oth)), (9, .int (nI (lsc g fr hv k))), (8, .int (nI a)), (0, .ref (wad g 11)), (1, .int (nI pj)), (2, .int (nI d)), (3, .int (nI lw)), (4, .int (nI x)), (5, .int (nI oth)), (7, .int (nI k))]) hx hb d_LE_paidIf_108 hl (by decide) rfl (fun ls hl => ?_)
                    refine lv_goto (tgt := 137) hx hb d_LE_paidIf_110 (by decide) ?_
                    refine lv_iinc (v := nI (k + 1)) (lv' := [(7, .int (nI (k + 1))), (6, .int (nI ((pdS lw pj d fr to dy an (fun i => if i = x then oth else lsc g fr hv i) k) + (pys lw (lsc g fr hv k) oth)))), (10, .int (nI oth)), (9, .int (nI (lsc g fr hv k))), (8, .int (nI a)), (0, .ref (wad g 11)), (1, .int (nI pj)), (2, .int (nI d)), (3, .int (nI lw)), (4, .int (nI x)), (5, .int (nI oth))]) hx hb d_LE_paidIf_137 hl (k := 10) rfl (nI_inc1 _) (by decide) rfl (fun ls hl => ?_)
                    refine lv_goto (tgt := 6) hx hb d_LE_paidIf_140 (by decide) ?_
                    have hl : lv_has ls 11 [(7, .int (nI (k + 1))), (6, .int (nI (pdS lw pj d fr to dy an (fun i => if i = x then oth else lsc g fr hv i) (k + 1)))), (10, .int (nI oth)), (9, .int (nI (lsc g fr hv k))), (8, .int (nI a)), (0, .ref (wad g 11)), (1, .int (nI pj)), (2, .int (nI d)), (3, .int (nI lw)), (4, .int (nI x)), (5, .int (nI oth))] := by rw [show pdS lw pj d fr to dy an (fun i => if i = x then oth else lsc g fr hv i) (k + 1) = (pdS lw pj d fr to dy an (fun i => if i = x then oth else lsc g fr hv i) k) + (pys lw (lsc g fr hv k) oth) from by (show pdS lw pj d fr to dy an (fun i => if i = x then oth else lsc g fr hv i) k + pdT lw pj d fr to dy an (fun i => if i = x then oth else lsc g fr hv i) k = _; (first | rw [pdT_n ho] | rw [pdT_s ho]); (try dsimp only); (repeat' split) <;> first | rfl | omega)]; exact hl
                    exact ih_6 (k + 1) _ (by omega) (by omega) hw (lv_sub hl [5, 6, 7, 8, 9, 10, 1, 0] rfl)
              · refine lv_iload hx hb d_LE_paidIf_51 (lv_at hl 6 rfl) ?_
                refine lv_goto (tgt := 63) hx hb d_LE_paidIf_53 (by decide) ?_
                refine lv_istore (lv' := [(9, .int (nI oth)), (8, .int (nI a)), (0, .ref (wad g 11)), (1, .int (nI pj)), (2, .int (nI d)), (3, .int (nI lw)), (4, .int (nI x)), (5, .int (nI oth)), (6, .int (nI (pdS lw pj d fr to dy an (fun i => if i = x then oth else lsc g fr hv i) k))), (7, .int (nI k))]) hx hb d_LE_paidIf_63 hl (by decide) rfl (fun ls hl => ?_)
                refine lv_iload hx hb d_LE_paidIf_65 (lv_at hl 1 rfl) ?_
                refine lv_iload hx hb d_LE_paidIf_67 (lv_at hl 6 rfl) ?_
                refine q_icmp_ne (tgt := 77) hc (by omega) (by omega) d_LE_paidIf_69 (by decide) (fun c_11 => ?_) (fun c_11 => ?_)
                · refine lv_aload_n hx hb d_LE_paidIf_77 rfl (lv_at hl 2 rfl) ?_
                  refine gf_LE_24 hc hw d_LE_paidIf_78 ?_
                  refine lv_iload hx hb d_LE_paidIf_81 (lv_at hl 1 rfl) ?_
                  refine r_iald hc hw (h := 16) (n := 24) (i := a) (fun _ => rfl) (by omega) (by omega) (by decide) d_LE_paidIf_83 (v := .int (nI (lsc g fr hv a))) (congrArg Value.int ((hL.2 (a) (by omega)).2.2.2.2.1)) ?_
                  refine lv_istore (lv' := [(10, .int (nI (lsc g fr hv a))), (9, .int (nI oth)), (8, .int (nI a)), (0, .ref (wad g 11)), (1, .int (nI pj)), (2, .int (nI d)), (3, .int (nI lw)), (4, .int (nI x)), (5, .int (nI oth)), (6, .int (nI (pdS lw pj d fr to dy an (fun i => if i = x then oth else lsc g fr hv i) k))), (7, .int (nI k))]) hx hb d_LE_paidIf_84 hl (by decide) rfl (fun ls hl => ?_)
                  refine lv_aload_n hx hb d_LE_paidIf_86 rfl (lv_at hl 3 rfl) ?_
                  refine gf_LE_9 hc hw d_LE_paidIf_87 ?_
                  refine lv_iload hx hb d_LE_paidIf_90 (lv_at hl 10 rfl) ?_
                  refine r_iald hc hw (h := 12) (n := 24) (i := k) (fun _ => rfl) (by omega) (by omega) (by decide) d_LE_paidIf_92 (v := .int (nI (fr k))) (congrArg Value.int ((hL.2 (k) (by omega)).1)) ?_
                  refine lv_iload_n hx hb d_LE_paidIf_93 rfl (lv_at hl 4 rfl) ?_
                  refine q_icmp_ne (tgt := 113) hc (by omega) (by omega) d_LE_paidIf_94 (by decide) (fun c_12 => ?_) (fun c_12 => ?_)
                  · refine lv_aload_n hx hb d_LE_paidIf_113 rfl (lv_at hl 3 rfl) ?_
                    refine gf_LE_15 hc hw d_LE_paidIf_114 ?_
                    refine lv_iload hx hb d_LE_paidIf_117 (lv_at hl 10 rfl) ?_
                    refine r_iald hc hw (h := 13) (n := 24) (i := k) (fun _ => rfl) (by omega) (by omega) (by decide) d_LE_paidIf_119 (v := .int (nI (to k))) (congrArg Value.int ((hL.2 (k) (by omega)).2.1)) ?_
                    refine lv_iload_n hx hb d_LE_paidIf_120 rfl (lv_at hl 4 rfl) ?_
                    refine q_icmp_ne (tgt := 137) hc (by omega) (by omega) d_LE_paidIf_121 (by decide) (fun c_13 => ?_) (fun c_13 => ?_)
                    · refine lv_iinc (v := nI (k + 1)) (lv' := [(7, .int (nI (k + 1))), (10, .int (nI (lsc g fr hv a))), (9, .int (nI oth)), (8, .int (nI a)), (0, .ref (wad g 11)), (1, .int (nI pj)), (2, .int (nI d)), (3, .int (nI lw)), (4, .int (nI x)), (5, .int (nI oth)), (6, .int (nI (pdS lw pj d fr to dy an (fun i => if i = x then oth else lsc g fr hv i) k)))]) hx hb d_LE_paidIf_137 hl (k := 10) rfl (nI_inc1 _) (by decide) rfl (fun ls hl => ?_)
                      refine lv_goto (tgt := 6) hx hb d_LE_paidIf_140 (by decide) ?_
                      have hl : lv_has ls 11 [(7, .int (nI (k + 1))), (10, .int (nI (lsc g fr hv a))), (9, .int (nI oth)), (8, .int (nI a)), (0, .ref (wad g 11)), (1, .int (nI pj)), (2, .int (nI d)), (3, .int (nI lw)), (4, .int (nI x)), (5, .int (nI oth)), (6, .int (nI (pdS lw pj d fr to dy an (fun i => if i = x then oth else lsc g fr hv i) (k + 1))))] := by rw [show pdS lw pj d fr to dy an (fun i => if i = x then oth else lsc g fr hv i) (k + 1) = pdS lw pj d fr to dy an (fun i => if i = x then oth else lsc g fr hv i) k from by (show pdS lw pj d fr to dy an (fun i => if i = x then oth else lsc g fr hv i) k + pdT lw pj d fr to dy an (fun i => if i = x then oth else lsc g fr hv i) k = _; (first | rw [pdT_n ho] | rw [pdT_s ho]); (try dsimp only); (repeat' split) <;> first | rfl | omega)]; exact hl
                      exact ih_6 (k + 1) _ (by omega) (by omega) hw (lv_sub hl [4, 5, 6, 7, 8, 9, 10, 0] rfl)
                    · refine lv_iload hx hb d_LE_paidIf_124 (lv_at hl 9 rfl) ?_
                      refine lv_iload_n hx hb d_LE_paidIf_126 rfl (lv_at hl 6 rfl) ?_
                      refine lv_iload hx hb d_LE_paidIf_127 (lv_at hl 0 rfl) ?_
                      refine lv_iload hx hb d_LE_paidIf_129 (lv_at hl 1 rfl) ?_
                      refine kRN hc hw lk_LE_54 (As := [.int (nI lw), .int (nI (lsc g fr hv a)), .int (nI oth)]) (rest := [.int (nI (pdS lw pj d fr to dy an (fun i => if i = x then oth else lsc g fr hv i) k))]) (c_AP_pays l D g _ (lw) (lsc g fr hv a) (oth) (by omega) (by omega) (by omega)) ⟨Nat.le_of_ble_eq_true rfl, Nat.le_of_ble_eq_true rfl⟩ ⟨Nat.le_refl _, Nat.le_refl _⟩ rfl hl rfl (Nat.le_of_ble_eq_true rfl) d_LE_paidIf_131 ?_
                      refine q_iadd hc d_LE_paidIf_134 ?_
                      refine lv_istore (lv' := [(6, .int (nI ((pdS lw pj d fr to dy an (fun i => if i = x then oth else lsc g fr hv i) k) + (pys lw (lsc g fr hv a) oth)))), (10, .int (nI (lsc g fr hv a))), (9, .int (nI oth)), (8, .int (nI a)), (0, .ref (wad g 11)), (1, .int (nI pj)), (2, .int (nI d)), (3, .int (nI lw)), (4, .int (nI x)), (5, .int (nI oth)), (7, .int (nI k))]) hx hb d_LE_paidIf_135 hl (by decide) rfl (fun ls hl => ?_)
                      refine lv_iinc (v := nI (k + 1)) (lv' := [(7, .int (nI (k + 1))), (6, .int (nI ((pdS lw pj d fr to dy an (fun i => if i = x then oth else lsc g fr hv i) k) + (pys lw (lsc g fr hv a) oth)))), (10, .int (nI (lsc g fr hv a))), (9, .int (nI oth)), (8, .int (nI a)), (0, .ref (wad g 11)), (1, .int (nI pj)), (2, .int (nI d)), (3, .int (nI lw)), (4, .int (nI x)), (5, .int (nI oth))]) hx hb d_LE_paidIf_137 hl (k := 10) rfl (nI_inc1 _) (by decide) rfl (fun ls hl => ?_)
                      refine lv_goto (tgt := 6) hx hb d_LE_paidIf_140 (by decide) ?_
                      have hl : lv_has ls 11 [(7, .int (nI (k + 1))), (6, .int (nI (pdS lw pj d fr to dy an (fun i => if i = x then oth else lsc g fr hv i) (k + 1)))), (10, .int (nI (lsc g fr hv a))), (9, .int (nI oth)), (8, .int (nI a)), (0, .ref (wad g 11)), (1, .int (nI pj)), (2, .int (nI d)), (3, .int (nI lw)), (4, .int (nI x)), (5, .int (nI oth))] := by rw [show pdS lw pj d fr to dy an (fun i => if i = x then oth else lsc g fr hv i) (k + 1) = (pdS lw pj d fr to dy an (fun i => if i = x then oth else lsc g fr hv i) k) + (pys lw (lsc g fr hv a) oth) from by (show pdS lw pj d fr to dy an (fun i => if i = x then oth else lsc g fr hv i) k + pdT lw pj d fr to dy an (fun i => if i = x then oth else lsc g fr hv i) k = _; (first | rw [pdT_n ho] | rw [pdT_s ho]); (try dsimp only); (repeat' split) <;> first | rfl | omega)]; exact hl
                      exact ih_6 (k + 1) _ (by omega) (by omega) hw (lv_sub hl [5, 6, 7, 8, 9, 10, 1, 0] rfl)
                  · refine lv_iload hx hb d_LE_paidIf_97 (lv_at hl 9 rfl) ?_
                    refine lv_iload_n hx hb d_LE_paidIf_99 rfl (lv_at hl 6 rfl) ?_
                    refine lv_iload hx hb d_LE_paidIf_100 (lv_at hl 1 rfl) ?_
                    refine lv_iload hx hb d_LE_paidIf_102 (lv_at hl 0 rfl) ?_
                    refine kRN hc hw lk_LE_54 (As := [.int (nI lw), .int (nI oth), .int (nI (lsc g fr hv a))]) (rest := [.int (nI (pdS lw pj d fr to dy an (fun i => if i = x then oth else lsc g fr hv i) k))]) (c_AP_pays l D g _ (lw) (oth) (lsc g fr hv a) (by omega) (by omega) (by omega)) ⟨Nat.le_of_ble_eq_true rfl, Nat.le_of_ble_eq_true rfl⟩ ⟨Nat.le_refl _, Nat.le_refl _⟩ rfl hl rfl (Nat.le_of_ble_eq_true rfl) d_LE_paidIf_104 ?_
                    refine q_iadd hc d_LE_paidIf_107 ?_
                    refine lv_istore (lv' := [(6, .int (nI ((pdS lw pj d fr to dy an (fun i => if i = x then oth else lsc g fr hv i) k) + (pys lw oth (lsc g fr hv a))))), (10, .int (nI (lsc g fr hv a))), (9, .int (nI oth)), (8, .int (nI a)), (0, .ref (wad g 11)), (1, .int (nI pj)), (2, .int (nI d)), (3, .int (nI lw)), (4, .int (nI x)), (5, .int (nI oth)), (7, .int (nI k))]) hx hb d_LE_paidIf_108 hl (by decide) rfl (fun ls hl => ?_)
                    refine lv_goto (tgt := 137) hx hb d_LE_paidIf_110 (by decide) ?_
                    refine lv_iinc (v := nI (k + 1)) (lv' := [(7, .int (nI (k + 1))), (6, .int (nI ((pdS lw pj d fr to dy an (fun i => if i = x then oth else lsc g fr hv i) k) + (pys lw oth (lsc g fr hv a))))), (10, .int (nI (lsc g fr hv a))), (9, .int (nI oth)), (8, .int (nI a)), (0, .ref (wad g 11)), (1, .int (nI pj)), (2, .int (nI d)), (3, .int (nI lw)), (4, .int (nI x)), (5, .int (nI oth))]) hx hb d_LE_paidIf_137 hl (k := 10) rfl (nI_inc1 _) (by decide) rfl (fun ls hl => ?_)
                    refine lv_goto (tgt := 6) hx hb d_LE_paidIf_140 (by decide) ?_
                    have hl : lv_has ls 11 [(7, .int (nI (k + 1))), (6, .int (nI (pdS lw pj d fr to dy an (fun i => if i = x then oth else lsc g fr hv i) (k + 1)))), (10, .int (nI (lsc g fr hv a))), (9, .int (nI oth)), (8, .int (nI a)), (0, .ref (wad g 11)), (1, .int (nI pj)), (2, .int (nI d)), (3, .int (nI lw)), (4, .int (nI x)), (5, .int (nI oth))] := by rw [show pdS lw pj d fr to dy an (fun i => if i = x then oth else lsc g fr hv i) (k + 1) = (pdS lw pj d fr to dy an (fun i => if i = x then oth else lsc g fr hv i) k) + (pys lw oth (lsc g fr hv a)) from by (show pdS lw pj d fr to dy an (fun i => if i = x then oth else lsc g fr hv i) k + pdT lw pj d fr to dy an (fun i => if i = x then oth else lsc g fr hv i) k = _; (first | rw [pdT_n ho] | rw [pdT_s ho]); (try dsimp only); (repeat' split) <;> first | rfl | omega)]; exact hl
                    exact ih_6 (k + 1) _ (by omega) (by omega) hw (lv_sub hl [5, 6, 7, 8, 9, 10, 1, 0] rfl)
                · refine lv_iload hx hb d_LE_paidIf_72 (lv_at hl 7 rfl) ?_
                  refine lv_goto (tgt := 84) hx hb d_LE_paidIf_74 (by decide) ?_
                  refine lv_istore (lv' := [(10, .int (nI oth)), (9, .int (nI oth)), (8, .int (nI a)), (0, .ref (wad g 11)), (1, .int (nI pj)), (2, .int (nI d)), (3, .int (nI lw)), (4, .int (nI x)), (5, .int (nI oth)), (6, .int (nI (pdS lw pj d fr to dy an (fun i => if i = x then oth else lsc g fr hv i) k))), (7, .int (nI k))]) hx hb d_LE_paidIf_84 hl (by decide) rfl (fun ls hl => ?_)
                  refine lv_aload_n hx hb d_LE_paidIf_86 rfl (lv_at hl 3 rfl) ?_
                  refine gf_LE_9 hc hw d_LE_paidIf_87 ?_
                  refine lv_iload hx hb d_LE_paidIf_90 (lv_at hl 10 rfl) ?_
                  refine r_iald hc hw (h := 12) (n := 24) (i := k) (fun _ => rfl) (by omega) (by omega) (by decide) d_LE_paidIf_92 (v := .int (nI (fr k))) (congrArg Value.int ((hL.2 (k) (by omega)).1)) ?_
                  refine lv_iload_n hx hb d_LE_paidIf_93 rfl (lv_at hl 4 rfl) ?_
                  refine q_icmp_ne (tgt := 113) hc (by omega) (by omega) d_LE_paidIf_94 (by decide) (fun c_14 => ?_) (fun c_14 => ?_)
                  · refine lv_aload_n hx hb d_LE_paidIf_113 rfl (lv_at hl 3 rfl) ?_
                    refine gf_LE_15 hc hw d_LE_paidIf_114 ?_
                    refine lv_iload hx hb d_LE_paidIf_117 (lv_at hl 10 rfl) ?_
                    refine r_iald hc hw (h := 13) (n := 24) (i := k) (fun _ => rfl) (by omega) (by omega) (by decide) d_LE_paidIf_119 (v := .int (nI (to k))) (congrArg Value.int ((hL.2 (k) (by omega)).2.1)) ?_
                    refine lv_iload_n hx hb d_LE_paidIf_120 rfl (lv_at hl 4 rfl) ?_
                    refine q_icmp_ne (tgt := 137) hc (by omega) (by omega) d_LE_paidIf_121 (by decide) (fun c_15 => ?_) (fun c_15 => ?_)
                    · refine lv_iinc (v := nI (k + 1)) (lv' := [(7, .int (nI (k + 1))), (10, .int (nI oth)), (9, .int (nI oth)), (8, .int (nI a)), (0, .ref (wad g 11)), (1, .int (nI pj)), (2, .int (nI d)), (3, .int (nI lw)), (4, .int (nI x)), (5, .int (nI oth)), (6, .int (nI (pdS lw pj d fr to dy an (fun i => if i = x then oth else lsc g fr hv i) k)))]) hx hb d_LE_paidIf_137 hl (k := 10) rfl (nI_inc1 _) (by decide) rfl (fun ls hl => ?_)
                      refine lv_goto (tgt := 6) hx hb d_LE_paidIf_140 (by decide) ?_
                      have hl : lv_has ls 11 [(7, .int (nI (k + 1))), (10, .int (nI oth)), (9, .int (nI oth)), (8, .int (nI a)), (0, .ref (wad g 11)), (1, .int (nI pj)), (2, .int (nI d)), (3, .int (nI lw)), (4, .int (nI x)), (5, .int (nI oth)), (6, .int (nI (pdS lw pj d fr to dy an (fun i => if i = x then oth else lsc g fr hv i) (k + 1))))] := by rw [show pdS lw pj d fr to dy an (fun i => if i = x then oth else lsc g fr hv i) (k + 1) = pdS lw pj d fr to dy an (fun i => if i = x then oth else lsc g fr hv i) k from by (show pdS lw pj d fr to dy an (fun i => if i = x then oth else lsc g fr hv i) k + pdT lw pj d fr to dy an (fun i => if i = x then oth else lsc g fr hv i) k = _; (first | rw [pdT_n ho] | rw [pdT_s ho]); (try dsimp only); (repeat' split) <;> first | rfl | omega)]; exact hl
                      exact ih_6 (k + 1) _ (by omega) (by omega) hw (lv_sub hl [4, 5, 6, 7, 8, 9, 10, 0] rfl)
                    · refine lv_iload hx hb d_LE_paidIf_124 (lv_at hl 9 rfl) ?_
                      refine lv_iload_n hx hb d_LE_paidIf_126 rfl (lv_at hl 6 rfl) ?_
                      refine lv_iload hx hb d_LE_paidIf_127 (lv_at hl 0 rfl) ?_
                      refine lv_iload hx hb d_LE_paidIf_129 (lv_at hl 1 rfl) ?_
                      refine kRN hc hw lk_LE_54 (As := [.int (nI lw), .int (nI oth), .int (nI oth)]) (rest := [.int (nI (pdS lw pj d fr to dy an (fun i => if i = x then oth else lsc g fr hv i) k))]) (c_AP_pays l D g _ (lw) (oth) (oth) (by omega) (by omega) (by omega)) ⟨Nat.le_of_ble_eq_true rfl, Nat.le_of_ble_eq_true rfl⟩ ⟨Nat.le_refl _, Nat.le_refl _⟩ rfl hl rfl (Nat.le_of_ble_eq_true rfl) d_LE_paidIf_131 ?_
                      refine q_iadd hc d_LE_paidIf_134 ?_
                      refine lv_istore (lv' := [(6, .int (nI ((pdS lw pj d fr to dy an (fun i => if i = x then oth else lsc g fr hv i) k) + (pys lw oth oth)))), (10, .int (nI oth)), (9, .int (nI oth)), (8, .int (nI a)), (0, .ref (wad g 11)), (1, .int (nI pj)), (2, .int (nI d)), (3, .int (nI lw)), (4, .int (nI x)), (5, .int (nI oth)), (7, .int (nI k))]) hx hb d_LE_paidIf_135 hl (by decide) rfl (fun ls hl => ?_)
                      refine lv_iinc (v := nI (k + 1)) (lv' := [(7, .int (nI (k + 1))), (6, .int (nI ((pdS lw pj d fr to dy an (fun i => if i = x then oth else lsc g fr hv i) k) + (pys lw oth oth)))), (10, .int (nI oth)), (9, .int (nI oth)), (8, .int (nI a)), (0, .ref (wad g 11)), (1, .int (nI pj)), (2, .int (nI d)), (3, .int (nI lw)), (4, .int (nI x)), (5, .int (nI oth))]) hx hb d_LE_paidIf_137 hl (k := 10) rfl (nI_inc1 _) (by decide) rfl (fun ls hl => ?_)
                      refine lv_goto (tgt := 6) hx hb d_LE_paidIf_140 (by decide) ?_
                      have hl : lv_has ls 11 [(7, .int (nI (k + 1))), (6, .int (nI (pdS lw pj d fr to dy an (fun i => if i = x then oth else lsc g fr hv i) (k + 1)))), (10, .int (nI oth)), (9, .int (nI oth)), (8, .int (nI a)), (0, .ref (wad g 11)), (1, .int (nI pj)), (2, .int (nI d)), (3, .int (nI lw)), (4, .int (nI x)), (5, .int (nI oth))] := by rw [show pdS lw pj d fr to dy an (fun i => if i = x then oth else lsc g fr hv i) (k + 1) = (pdS lw pj d fr to dy an (fun i => if i = x then oth else lsc g fr hv i) k) + (pys lw oth oth) from by (show pdS lw pj d fr to dy an (fun i => if i = x then oth else lsc g fr hv i) k + pdT lw pj d fr to dy an (fun i => if i = x then oth else lsc g fr hv i) k = _; (first | rw [pdT_n ho] | rw [pdT_s ho]); (try dsimp only); (repeat' split) <;> first | rfl | omega)]; exact hl
                      exact ih_6 (k + 1) _ (by omega) (by omega) hw (lv_sub hl [5, 6, 7, 8, 9, 10, 1, 0] rfl)
                  · refine lv_iload hx hb d_LE_paidIf_97 (lv_at hl 9 rfl) ?_
                    refine lv_iload_n hx hb d_LE_paidIf_99 rfl (lv_at hl 6 rfl) ?_
                    refine lv_iload hx hb d_LE_paidIf_100 (lv_at hl 1 rfl) ?_
                    refine lv_iload hx hb d_LE_paidIf_102 (lv_at hl 0 rfl) ?_
                    refine kRN hc hw lk_LE_54 (As := [.int (nI lw), .int (nI oth), .int (nI oth)]) (rest := [.int (nI (pdS lw pj d fr to dy an (fun i => if i = x then oth else lsc g fr hv i) k))]) (c_AP_pays l D g _ (lw) (oth) (oth) (by omega) (by omega) (by omega)) ⟨Nat.le_of_ble_eq_true rfl, Nat.le_of_ble_eq_true rfl⟩ ⟨Nat.le_refl _, Nat.le_refl _⟩ rfl hl rfl (Nat.le_of_ble_eq_true rfl) d_LE_paidIf_104 ?_
                    refine q_iadd hc d_LE_paidIf_107 ?_
                    refine lv_istore (lv' := [(6, .int (nI ((pdS lw pj d fr to dy an (fun i => if i = x then oth else lsc g fr hv i) k) + (pys lw oth oth)))), (10, .int (nI oth)), (9, .int (nI oth)), (8, .int (nI a)), (0, .ref (wad g 11)), (1, .int (nI pj)), (2, .int (nI d)), (3, .int (nI lw)), (4, .int (nI x)), (5, .int (nI oth)), (7, .int (nI k))]) hx hb d_LE_paidIf_108 hl (by decide) rfl (fun ls hl => ?_)
                    refine lv_goto (tgt := 137) hx hb d_LE_paidIf_110 (by decide) ?_
                    refine lv_iinc (v := nI (k + 1)) (lv' := [(7, .int (nI (k + 1))), (6, .int (nI ((pdS lw pj d fr to dy an (fun i => if i = x then oth else lsc g fr hv i) k) + (pys lw oth oth)))), (10, .int (nI oth)), (9, .int (nI oth)), (8, .int (nI a)), (0, .ref (wad g 11)), (1, .int (nI pj)), (2, .int (nI d)), (3, .int (nI lw)), (4, .int (nI x)), (5, .int (nI oth))]) hx hb d_LE_paidIf_137 hl (k := 10) rfl (nI_inc1 _) (by decide) rfl (fun ls hl => ?_)
                    refine lv_goto (tgt := 6) hx hb d_LE_paidIf_140 (by decide) ?_
                    have hl : lv_has ls 11 [(7, .int (nI (k + 1))), (6, .int (nI (pdS lw pj d fr to dy an (fun i => if i = x then oth else lsc g fr hv i) (k + 1)))), (10, .int (nI oth)), (9, .int (nI oth)), (8, .int (nI a)), (0, .ref (wad g 11)), (1, .int (nI pj)), (2, .int (nI d)), (3, .int (nI lw)), (4, .int (nI x)), (5, .int (nI oth))] := by rw [show pdS lw pj d fr to dy an (fun i => if i = x then oth else lsc g fr hv i) (k + 1) = (pdS lw pj d fr to dy an (fun i => if i = x then oth else lsc g fr hv i) k) + (pys lw oth oth) from by (show pdS lw pj d fr to dy an (fun i => if i = x then oth else lsc g fr hv i) k + pdT lw pj d fr to dy an (fun i => if i = x then oth else lsc g fr hv i) k = _; (first | rw [pdT_n ho] | rw [pdT_s ho]); (try dsimp only); (repeat' split) <;> first | rfl | omega)]; exact hl
                    exact ih_6 (k + 1) _ (by omega) (by omega) hw (lv_sub hl [5, 6, 7, 8, 9, 10, 1, 0] rfl)
  have hl : lv_has ls 11 [(7, .int (nI 0)), (6, .int (nI (pdS lw pj d fr to dy an (fun i => if i = x then oth else lsc g fr hv i) 0))), (0, .ref (wad g 11)), (1, .int (nI pj)), (2, .int (nI d)), (3, .int (nI lw)), (4, .int (nI x)), (5, .int (nI oth))] := by rw [show pdS lw pj d fr to dy an (fun i => if i = x then oth else lsc g fr hv i) 0 = 0 from by rfl]; exact hl
  exact loop_6 _ 0 _ (Nat.lt_succ_self _) (by omega) hw (lv_sub hl [2, 3, 4, 5, 6, 7, 1, 0] rfl)
set_option maxHeartbeats 4000000 in
theorem c_LE_paidBy (l : Launch) (D : va_G) (g : wG) (F : wF) (pc cn : Nat) (fr to hv dy : Nat → Nat) (an af : Nat → Option Nat) (hI : LI pc cn fr to hv dy an af) (hL : LC g F cn fr to hv dy an af) (lw pj d : Nat) (hlw : lw ≤ 2) (hpc : pc ≤ 6) (hpj : pj < pc) (hd : d ≤ 99) : CR l y_LE_paidBy b_LE_paidBy 4 (Option.some Jvm.ClassFile.FieldType.int) 2 D g F [.ref (wad g 11), .int (nI pj), .int (nI d), .int (nI lw)] (.int (nI (pdS lw pj d fr to dy an (lsc g fr hv) cn))) := by
  refine CR.start rfl (Nat.le_of_ble_eq_true rfl) ?_
  intro p e s m args below meth c A ls hc hr hlocks hw hl
  have hl : lv_has ls 4 [(0, .ref (wad g 11)), (1, .int (nI pj)), (2, .int (nI d)), (3, .int (nI lw))] := hl
  have hx := hc.1
  have hb := hc.2.1
  refine lv_aload_n hx hb d_LE_paidBy_0 rfl (lv_at hl 0 rfl) ?_
  refine lv_iload_n hx hb d_LE_paidBy_1 rfl (lv_at hl 1 rfl) ?_
  refine lv_iload_n hx hb d_LE_paidBy_2 rfl (lv_at hl 2 rfl) ?_
  refine lv_iload_n hx hb d_LE_paidBy_3 rfl (lv_at hl 3 rfl) ?_
  refine lv_bipush (v := (-9)) hx hb d_LE_paidBy_4 (by decide) ?_
  refine lv_iconst (v := nI 0) hx hb d_LE_paidBy_6 (by decide) ?_
  refine kRV hc hw lk_LE_50 (As := [.int (nI pj), .int (nI d), .int (nI lw), .int ((-9)), .int (nI 0)]) (rest := []) (c_LE_paidIf_n l D g _ pc cn fr to hv dy an af hI hL lw pj d hlw hpc hpj hd) (rc_LE hw) ⟨Nat.le_of_ble_eq_true rfl, Nat.le_of_ble_eq_true rfl⟩ ⟨Nat.le_refl _, Nat.le_refl _⟩ rfl hl rfl (Nat.le_of_ble_eq_true rfl) d_LE_paidBy_7 ?_
  exact R_i hc hr hlocks (rfl) d_LE_paidBy_10
set_option maxHeartbeats 4000000 in
theorem c_LE_write (l : Launch) (D : va_G) (g : wG) (F : wF) (pc cn : Nat) (fr to hv dy : Nat → Nat) (an af : Nat → Option Nat) (hI : LI pc cn fr to hv dy an af) (hL : LC g F cn fr to hv dy an af) (j t w d : Nat) (hcn : cn < 24) (hj : j < wm g) (h2 : wK g j ≤ 2) (hw9 : w ≤ 99) (hn : F (79 + j) 0 = nI j) : CW l y_LE_write b_LE_write 6 (Option.some Jvm.ClassFile.FieldType.int) 2 0 0 D g F [.ref (wad g 11), .ref (wad g (79 + j)), .int (nI t), .int (nI w), .int (nI d)] (fun v g2 u => v = some (.int (nI cn)) ∧ g = g2 ∧ LC g u (cn + 1) (va_up fr cn j) (va_up to cn t) (va_up hv cn w) (va_up dy cn d) (va_up an cn none) (va_up af cn none) ∧ FrO 11 18 F u) := by
  refine CW.start rfl (Nat.le_of_ble_eq_true rfl) ?_
  intro p e s m args below meth c A ls hc hr hlocks hw hl
  have hl : lv_has ls 6 [(0, .ref (wad g 11)), (1, .ref (wad g (79 + j))), (2, .int (nI t)), (3, .int (nI w)), (4, .int (nI d))] := hl
  have hx := hc.1
  have hb := hc.2.1
  refine lv_aload_n hx hb d_LE_write_0 rfl (lv_at hl 0 rfl) ?_
  refine gf_LE_33 hc hw d_LE_write_1 (v := .int (nI cn)) (congrArg Value.int (hL.1)) ?_
  refine lv_istore (lv' := [(5, .int (nI cn)), (0, .ref (wad g 11)), (1, .ref (wad g (79 + j))), (2, .int (nI t)), (3, .int (nI w)), (4, .int (nI d))]) hx hb d_LE_write_4 hl (by decide) rfl (fun ls hl => ?_)
  refine lv_aload_n hx hb d_LE_write_6 rfl (lv_at hl 1 rfl) ?_
  refine gf_LE_9 hc hw d_LE_write_7 ?_
  refine lv_iload hx hb d_LE_write_10 (lv_at hl 0 rfl) ?_
  refine lv_aload_n hx hb d_LE_write_12 rfl (lv_at hl 2 rfl) ?_
  refine gf_LE_41 hc hw (k := j) (hj) (h2) d_LE_write_13 (v := .int (nI j)) (congrArg Value.int (hn)) ?_
  refine r_iast hc hw (h := 12) (n := 24) (i := cn) (fun _ => rfl) (by omega) (by omega) (by decide) d_LE_write_16 (fun H locs hw => ?_)
  refine lv_aload_n hx hb d_LE_write_17 rfl (lv_at hl 1 rfl) ?_
  refine gf_LE_15 hc hw d_LE_write_18 ?_
  refine lv_iload hx hb d_LE_write_21 (lv_at hl 0 rfl) ?_
  refine lv_iload_n hx hb d_LE_write_23 rfl (lv_at hl 3 rfl) ?_
  refine r_iast hc hw (h := 13) (n := 24) (i := cn) (fun _ => rfl) (by omega) (by omega) (by decide) d_LE_write_24 (fun H locs hw => ?_)
  refine lv_aload_n hx hb d_LE_write_25 rfl (lv_at hl 1 rfl) ?_
  refine gf_LE_18 hc hw d_LE_write_26 ?_
  refine lv_iload hx hb d_LE_write_29 (lv_at hl 0 rfl) ?_
  refine lv_iload_n hx hb d_LE_write_31 rfl (lv_at hl 4 rfl) ?_
  refine r_iast hc hw (h := 14) (n := 24) (i := cn) (fun _ => rfl) (by omega) (by omega) (by decide) d_LE_write_32 (fun H locs hw => ?_)
  refine lv_aload_n hx hb d_LE_write_33 rfl (lv_at hl 1 rfl) ?_
  refine gf_LE_21 hc hw d_LE_write_34 ?_
  refine lv_iload hx hb d_LE_write_37 (lv_at hl 0 rfl) ?_
  refine lv_iload hx hb d_LE_write_39 (lv_at hl 5 rfl) ?_
  refine r_iast hc hw (h := 15) (n := 24) (i := cn) (fun _ => rfl) (by omega) (by omega) (by decide) d_LE_write_41 (fun H locs hw => ?_)
  refine lv_aload_n hx hb d_LE_write_42 rfl (lv_at hl 1 rfl) ?_
  refine gf_LE_24 hc hw d_LE_write_43 ?_
  refine lv_iload hx hb d_LE_write_46 (lv_at hl 0 rfl) ?_
  refine lv_aload_n hx hb d_LE_write_48 rfl (lv_at hl 2 rfl) ?_
  refine lv_iload_n hx hb d_LE_write_49 rfl (lv_at hl 4 rfl) ?_
  refine vs_LE_46 hc hw (j := j) (hj) (h2) (w := w) (by omega) ⟨Nat.le_of_ble_eq_true rfl, Nat.le_of_ble_eq_true rfl⟩ ⟨Nat.le_refl _, Nat.le_refl _⟩ hl (Nat.le_of_ble_eq_true rfl) d_LE_write_50 ?_
  refine r_iast hc hw (h := 16) (n := 24) (i := cn) (fun _ => rfl) (by omega) (by omega) (by decide) d_LE_write_53 (fun H locs hw => ?_)
  refine lv_aload_n hx hb d_LE_write_54 rfl (lv_at hl 1 rfl) ?_
  refine gf_LE_27 hc hw d_LE_write_55 ?_
  refine lv_iload hx hb d_LE_write_58 (lv_at hl 0 rfl) ?_
  refine lv_bipush (v := (-9)) hx hb d_LE_write_60 (by decide) ?_
  refine r_iast hc hw (h := 17) (n := 24) (i := cn) (fun _ => rfl) (by omega) (by omega) (by decide) d_LE_write_62 (fun H locs hw => ?_)
  refine lv_aload_n hx hb d_LE_write_63 rfl (lv_at hl 1 rfl) ?_
  refine gf_LE_30 hc hw d_LE_write_64 ?_
  refine lv_iload hx hb d_LE_write_67 (lv_at hl 0 rfl) ?_
  refine lv_bipush (v := (-9)) hx hb d_LE_write_69 (by decide) ?_
  refine r_iast hc hw (h := 18) (n := 24) (i := cn) (fun _ => rfl) (by omega) (by omega) (by decide) d_LE_write_71 (fun H locs hw => ?_)
  refine lv_aload_n hx hb d_LE_write_72 rfl (lv_at hl 1 rfl) ?_
  refine lv_dup hx hb d_LE_write_73 rfl ?_
  refine gf_LE_33 hc hw d_LE_write_74 (v := .int (nI cn)) (congrArg Value.int ((u2_h (by decide)).trans ((u2_h (by decide)).trans ((u2_h (by decide)).trans ((u2_h (by decide)).trans ((u2_h (by decide)).trans ((u2_h (by decide)).trans ((u2_h (by decide)).trans (hL.1))))))))) ?_
  refine lv_iconst (v := nI 1) hx hb d_LE_write_77 (by decide) ?_
  refine q_iadd hc d_LE_write_78 ?_
  refine pf_LE_33 hc hw d_LE_write_79 (fun H locs hw => ?_)
  refine lv_iload hx hb d_LE_write_82 (lv_at hl 0 rfl) ?_
  exact W_i hc hw hr hlocks (⟨rfl, rfl, LC_w hL, (by repeat (first | exact FrO.rf _ _ _ | refine FrO.up ?_ (by decide) (by decide)))⟩) d_LE_write_84
set_option maxHeartbeats 4000000 in
theorem c_LE_pair (l : Launch) (D : va_G) (g : wG) (F : wF) (cn : Nat) (fr to hv dy : Nat → Nat) (an af : Nat → Option Nat) (hL : LC g F cn fr to hv dy an af) (x y : Nat) (hx1 : x < 24) (hy1 : y < 24) : CW l y_LE_pair b_LE_pair 3 (Option.none) 0 0 0 D g F [.ref (wad g 11), .int (nI x), .int (nI y)] (fun v g2 u => v = none ∧ g = g2 ∧ LC g u cn fr to hv dy (va_up an x (some y)) (va_up af y (some x)) ∧ FrO 11 18 F u) := by
  refine CW.start rfl (Nat.le_of_ble_eq_true rfl) ?_
  intro p e s m args below meth c A ls hc hr hlocks hw hl
  have hl : lv_has ls 3 [(0, .ref (wad g 11)), (1, .int (nI x)), (2, .int (nI y))] := hl
  have hx := hc.1
  have hb := hc.2.1
  refine lv_aload_n hx hb d_LE_pair_0 rfl (lv_at hl 0 rfl) ?_
  refine gf_LE_27 hc hw d_LE_pair_1 ?_
  refine lv_iload_n hx hb d_LE_pair_4 rfl (lv_at hl 1 rfl) ?_
  refine lv_iload_n hx hb d_LE_pair_5 rfl (lv_at hl 2 rfl) ?_
  refine r_iast hc hw (h := 17) (n := 24) (i := x) (fun _ => rfl) (by omega) (by omega) (by decide) d_LE_pair_6 (fun H locs hw => ?_)
  refine lv_aload_n hx hb d_LE_pair_7 rfl (lv_at hl 0 rfl) ?_
  refine gf_LE_30 hc hw d_LE_pair_8 ?_
  refine lv_iload_n hx hb d_LE_pair_11 rfl (lv_at hl 2 rfl) ?_
  refine lv_iload_n hx hb d_LE_pair_12 rfl (lv_at hl 1 rfl) ?_
  refine r_iast hc hw (h := 18) (n := 24) (i := y) (fun _ => rfl) (by omega) (by omega) (by decide) d_LE_pair_13 (fun H locs hw => ?_)
  exact W_v hc hw hr hlocks (⟨rfl, rfl, LC_p hL, (by repeat (first | exact FrO.rf _ _ _ | refine FrO.up ?_ (by decide) (by decide)))⟩) d_LE_pair_14
set_option maxHeartbeats 4000000 in
theorem c_LE_burnLast (l : Launch) (D : va_G) (g : wG) (F : wF) (pc cn : Nat) (fr to hv dy : Nat → Nat) (an af : Nat → Option Nat) (hI : LI pc cn fr to hv dy an af) (hL : LC g F cn fr to hv dy an af) (k : Nat) (hk : k ≤ cn) : CW l y_LE_burnLast b_LE_burnLast 3 (Option.none) 1 0 0 D g F [.ref (wad g 11), .int (nI k)] (fun v g2 u => v = none ∧ g = g2 ∧ LC g u (cn - k) fr to hv dy (anC an (cn - k)) af ∧ FrO 11 18 F u) := by
  refine CW.start rfl (Nat.le_of_ble_eq_true rfl) ?_
  intro p e s m args below meth c A ls hc hr hlocks hw hl
  have hl : lv_has ls 3 [(0, .ref (wad g 11)), (1, .int (nI k))] := hl
  have hx := hc.1
  have hb := hc.2.1
  have hcn := hI.1
  refine lv_iconst (v := nI 0) hx hb d_LE_burnLast_0 (by decide) ?_
  refine lv_istore_n (lv' := [(2, .int (nI 0)), (0, .ref (wad g 11)), (1, .int (nI k))]) hx hb d_LE_burnLast_1 rfl hl (by decide) rfl (fun ls hl => ?_)
  have loop_2 : ∀ (n_2 : Nat) (b : Nat) (F1 : wF) (H : Heap) (locs : List Loc) (ls : Array Slot), (k - b) < n_2 → (b ≤ k) → (LC g F1 (cn - b) fr to hv dy (anC an (cn - b)) af) → (FrO 11 18 F F1) → Wd D g F1 A s.heap H locs s → lv_has ls 3 [(0, .ref (wad g 11)), (1, .int (nI k)), (2, .int (nI b))] → W p l e (rmc 1 0 0) s m args below meth c H locs 0 0 (MQ below (Qw (fun v g2 u => v = none ∧ g = g2 ∧ LC g u (cn - k) fr to hv dy (anC an (cn - k)) af ∧ FrO 11 18 F u) (Bw D A) A) args s 0 0 A) (F0 m 2 ls []) := by
    intro n_2
    induction n_2 with
    | zero => intro b F1 H locs ls hm; exact absurd hm (Nat.not_lt_zero _)
    | succ n_2 ih_2 =>
      intro b F1 H locs ls hm_2 hbk hB hF1 hw hl
      refine lv_iload_n hx hb d_LE_burnLast_2 rfl (lv_at hl 2 rfl) ?_
      refine lv_iload_n hx hb d_LE_burnLast_3 rfl (lv_at hl 1 rfl) ?_
      refine q_icmp_ge (tgt := 62) hc (by omega) (by omega) d_LE_burnLast_4 (by decide) (fun c_1 => ?_) (fun c_1 => ?_)
      · have hkb : b = k := by omega
        subst hkb
        exact W_v hc hw hr hlocks (⟨rfl, rfl, hB, hF1⟩) d_LE_burnLast_62
      · refine lv_aload_n hx hb d_LE_burnLast_7 rfl (lv_at hl 0 rfl) ?_
        refine gf_LE_33 hc hw d_LE_burnLast_8 (v := .int (nI (cn - b))) (congrArg Value.int (hB.1)) ?_
        refine q_if_le (tgt := 62) hc (by omega) d_LE_burnLast_11 (by decide) (fun c_2 => ?_) (fun c_2 => ?_)
        · exact absurd c_2 (by first | omega | decide)
        · obtain ⟨c0, hc0⟩ : ∃ c0, cn - b = c0 + 1 := ⟨cn - b - 1, by omega⟩
          rw [hc0] at hB
          refine lv_aload_n hx hb d_LE_burnLast_14 rfl (lv_at hl 0 rfl) ?_
          refine lv_dup hx hb d_LE_burnLast_15 rfl ?_
          refine gf_LE_33 hc hw d_LE_burnLast_16 (v := .int (nI (c0 + 1))) (congrArg Value.int (hB.1)) ?_
          refine lv_iconst (v := nI 1) hx hb d_LE_burnLast_19 (by decide) ?_
          refine q_isub hc (by omega) d_LE_burnLast_20 ?_
          rw [show c0 + 1 - 1 = c0 from rfl]
          refine pf_LE_33 hc hw d_LE_burnLast_21 (fun H locs hw => ?_)
          have hB1 := LC_d hB
          refine lv_aload_n hx hb d_LE_burnLast_24 rfl (lv_at hl 0 rfl) ?_
          refine lv_aload_n hx hb d_LE_burnLast_25 rfl (lv_at hl 0 rfl) ?_
          refine gf_LE_30 hc hw d_LE_burnLast_26 ?_
          refine lv_aload_n hx hb d_LE_burnLast_29 rfl (lv_at hl 0 rfl) ?_
          refine gf_LE_33 hc hw d_LE_burnLast_30 (v := .int (nI c0)) (congrArg Value.int (u2_same _ _ _ _)) ?_
          rcases ho : af c0 with _ | x
          · refine r_iald hc hw (h := 18) (n := 24) (i := c0) (fun _ => rfl) (by omega) (by omega) (by decide) d_LE_burnLast_33 (v := .int ((-9))) (congrArg Value.int ((u2_h (by decide)).trans ((hB.2 c0 (by omega)).2.2.2.2.2.2.trans (by rw [ho]; rfl)))) ?_
            refine kRV hc hw lk_LE_37 (As := [.int ((-9))]) (rest := []) (c_LE_has l D g _ c0 (u2_same _ _ _ _) (by omega) ((-9))) (rc_LE hw) ⟨Nat.le_of_ble_eq_true rfl, Nat.le_of_ble_eq_true rfl⟩ ⟨Nat.le_refl _, Nat.le_refl _⟩ rfl hl rfl (Nat.le_of_ble_eq_true rfl) d_LE_burnLast_34 ?_
            refine b_if_eq (tgt := 56) hc d_LE_burnLast_37 (by decide) (fun c_3 => ?_) (fun c_3 => ?_)
            · try unfold inN at c_3
              refine lv_iinc (v := nI (b + 1)) (lv' := [(2, .int (nI (b + 1))), (0, .ref (wad g 11)), (1, .int (nI k))]) hx hb d_LE_burnLast_56 hl (k := 2) rfl (nI_inc1 _) (by decide) rfl (fun ls hl => ?_)
              refine lv_goto (tgt := 2) hx hb d_LE_burnLast_59 (by decide) ?_
              exact ih_2 (b + 1) _ _ _ _ (by omega) (by omega) (by rw [show cn - (b + 1) = c0 by omega]; exact LC_an hB1 (anC_n hI (by omega) ho)) (hF1.up (by decide) (by decide)) hw (lv_sub hl [1, 2, 0] rfl)
            · exact absurd c_3.1 (by decide)
          · obtain ⟨hx1, hx2⟩ := (hI.2 c0 (by omega)).2.2 x ho
            refine r_iald hc hw (h := 18) (n := 24) (i := c0) (fun _ => rfl) (by omega) (by omega) (by decide) d_LE_burnLast_33 (v := .int (nI x)) (congrArg Value.int ((u2_h (by decide)).trans ((hB.2 c0 (by omega)).2.2.2.2.2.2.trans (by rw [ho]; rfl)))) ?_
            refine kRV hc hw lk_LE_37 (As := [.int (nI x)]) (rest := []) (c_LE_has l D g _ c0 (u2_same _ _ _ _) (by omega) (nI x)) (rc_LE hw) ⟨Nat.le_of_ble_eq_true rfl, Nat.le_of_ble_eq_true rfl⟩ ⟨Nat.le_refl _, Nat.le_refl _⟩ rfl hl rfl (Nat.le_of_ble_eq_true rfl) d_LE_burnLast_34 ?_
            refine b_if_eq (tgt := 56) hc d_LE_burnLast_37 (by decide) (fun c_4 => ?_) (fun c_4 => ?_)
            · exact absurd ((inN_nI (by omega)).mpr hx1) c_4
            · try unfold inN at c_4
              refine lv_aload_n hx hb d_LE_burnLast_40 rfl (lv_at hl 0 rfl) ?_
              refine gf_LE_27 hc hw d_LE_burnLast_41 ?_
              refine lv_aload_n hx hb d_LE_burnLast_44 rfl (lv_at hl 0 rfl) ?_
              refine gf_LE_30 hc hw d_LE_burnLast_45 ?_
              refine lv_aload_n hx hb d_LE_burnLast_48 rfl (lv_at hl 0 rfl) ?_
              refine gf_LE_33 hc hw d_LE_burnLast_49 (v := .int (nI c0)) (congrArg Value.int (u2_same _ _ _ _)) ?_
              refine r_iald hc hw (h := 18) (n := 24) (i := c0) (fun _ => rfl) (by omega) (by omega) (by decide) d_LE_burnLast_52 (v := .int (nI x)) (congrArg Value.int ((u2_h (by decide)).trans ((hB.2 c0 (by omega)).2.2.2.2.2.2.trans (by rw [ho]; rfl)))) ?_
              refine lv_bipush (v := (-9)) hx hb d_LE_burnLast_53 (by decide) ?_
              refine r_iast hc hw (h := 17) (n := 24) (i := x) (fun _ => rfl) (by omega) (by omega) (by decide) d_LE_burnLast_55 (fun H locs hw => ?_)
              refine lv_iinc (v := nI (b + 1)) (lv' := [(2, .int (nI (b + 1))), (0, .ref (wad g 11)), (1, .int (nI k))]) hx hb d_LE_burnLast_56 hl (k := 2) rfl (nI_inc1 _) (by decide) rfl (fun ls hl => ?_)
              refine lv_goto (tgt := 2) hx hb d_LE_burnLast_59 (by decide) ?_
              exact ih_2 (b + 1) _ _ _ _ (by omega) (by omega) (by rw [show cn - (b + 1) = c0 by omega]; exact LC_an (LC_x hB1) (anC_s hI (by omega) ho)) ((hF1.up (by decide) (by decide)).up (by decide) (by decide)) hw (lv_sub hl [1, 2, 0] rfl)
  exact loop_2 _ 0 _ _ _ _ (Nat.lt_succ_self _) (Nat.zero_le _) (LC_an hL (anC_id hI)) (FrO.rf 11 18 F) hw (lv_sub hl [1, 2, 0] rfl)
set_option maxHeartbeats 4000000 in
theorem c_MO_scaleOf (l : Launch) (D : va_G) (g : wG) (F : wF) (pc cn : Nat) (fr to hv dy : Nat → Nat) (an af : Nat → Option Nat) (hI : LI pc cn fr to hv dy an af) (hM : LM F cn fr to hv dy an af) (hpc : pc ≤ 6) (hK : ∀ q, q < pc → F 62 q = nI (wK g q) ∧ wK g q ≤ 2) (k : Nat) (hk : k < cn) : CR l y_MO_scaleOf b_MO_scaleOf 2 (Option.some Jvm.ClassFile.FieldType.int) 1 D g F [.ref (wad g 58), .int (nI k)] (.int (nI (lsc g fr hv k))) := by
  refine CR.start rfl (Nat.le_of_ble_eq_true rfl) ?_
  intro p e s m args below meth c A ls hc hr hlocks hw hl
  have hl : lv_has ls 2 [(0, .ref (wad g 58)), (1, .int (nI k))] := hl
  have hx := hc.1
  have hb := hc.2.1
  have hcn := hI.1
  obtain ⟨⟨hi1, hi2, hi3, hi4, hi5, hi6⟩, hi7, hi8⟩ := hI.2 k (by omega)
  refine lv_aload_n hx hb d_MO_scaleOf_0 rfl (lv_at hl 0 rfl) ?_
  refine lv_aload_n hx hb d_MO_scaleOf_1 rfl (lv_at hl 0 rfl) ?_
  refine gf_MO_31 hc hw d_MO_scaleOf_2 ?_
  refine lv_iload_n hx hb d_MO_scaleOf_5 rfl (lv_at hl 1 rfl) ?_
  refine r_iald hc hw (h := 66) (n := 24) (i := k) (fun _ => rfl) (by omega) (by omega) (by decide) d_MO_scaleOf_6 (v := .int (nI (fr k))) (congrArg Value.int ((hM.2 (k) (by omega)).1)) ?_
  refine lv_aload_n hx hb d_MO_scaleOf_7 rfl (lv_at hl 0 rfl) ?_
  refine gf_MO_37 hc hw d_MO_scaleOf_8 ?_
  refine lv_iload_n hx hb d_MO_scaleOf_11 rfl (lv_at hl 1 rfl) ?_
  refine r_iald hc hw (h := 68) (n := 24) (i := k) (fun _ => rfl) (by omega) (by omega) (by decide) d_MO_scaleOf_12 (v := .int (nI (hv k))) (congrArg Value.int ((hM.2 (k) (by omega)).2.2.1)) ?_
  refine kRV hc hw lk_MO_119 (As := [.int (nI (fr k)), .int (nI (hv k))]) (rest := []) (c_MO_shows l D g _ (fr k) (hv k) (wK g (fr k)) (by omega) (by omega) (hK _ hi1).1 (hK _ hi1).2) (rc_MO hw) ⟨Nat.le_of_ble_eq_true rfl, Nat.le_of_ble_eq_true rfl⟩ ⟨Nat.le_refl _, Nat.le_refl _⟩ rfl hl rfl (Nat.le_of_ble_eq_true rfl) d_MO_scaleOf_13 ?_
  exact R_i hc hr hlocks (rfl) d_MO_scaleOf_16
set_option maxHeartbeats 4000000 in
theorem c_MO_paidBy (l : Launch) (D : va_G) (g : wG) (F : wF) (pc cn : Nat) (fr to hv dy : Nat → Nat) (an af : Nat → Option Nat) (hI : LI pc cn fr to hv dy an af) (hM : LM F cn fr to hv dy an af) (hpc : pc ≤ 6) (hK : ∀ q, q < pc → F 62 q = nI (wK g q) ∧ wK g q ≤ 2) (lw pj d : Nat) (hlw : lw ≤ 2) (h6 : F 58 6 = nI lw) (hpj : pj < pc) (hd : d ≤ 99) : CR l y_MO_paidBy b_MO_paidBy 6 (Option.some Jvm.ClassFile.FieldType.int) 2 D g F [.ref (wad g 58), .int (nI pj), .int (nI d)] (.int (nI (pdS lw pj d fr to dy an (lsc g fr hv) cn))) := by
  refine CR.start rfl (Nat.le_of_ble_eq_true rfl) ?_
  intro p e s m args below meth c A ls hc hr hlocks hw hl
  have hl : lv_has ls 6 [(0, .ref (wad g 58)), (1, .int (nI pj)), (2, .int (nI d))] := hl
  have hx := hc.1
  have hb := hc.2.1
  have hcn := hI.1
  have hs := lsc_le (g := g) hI
  refine lv_iconst (v := nI 0) hx hb d_MO_paidBy_0 (by decide) ?_
  refine lv_istore_n (lv' := [(3, .int (nI 0)), (0, .ref (wad g 58)), (1, .int (nI pj)), (2, .int (nI d))]) hx hb d_MO_paidBy_1 rfl hl (by decide) rfl (fun ls hl => ?_)
  refine lv_iconst (v := nI 0) hx hb d_MO_paidBy_2 (by decide) ?_
  refine lv_istore (lv' := [(4, .int (nI 0)), (3, .int (nI 0)), (0, .ref (wad g 58)), (1, .int (nI pj)), (2, .int (nI d))]) hx hb d_MO_paidBy_3 hl (by decide) rfl (fun ls hl => ?_)
  have loop_5 : ∀ (n_5 : Nat) (k : Nat)  (ls : Array Slot), (cn - k) < n_5 → (k ≤ cn) → Wd D g F A s.heap s.heap [] s → lv_has ls 6 [(0, .ref (wad g 58)), (1, .int (nI pj)), (2, .int (nI d)), (3, .int (nI (pdS lw pj d fr to dy an (lsc g fr hv) k))), (4, .int (nI k))] → W p l e (rmc 2 0 0) s m args below meth c s.heap [] 0 0 (MQ below (k2_QcV (.int (nI (pdS lw pj d fr to dy an (lsc g fr hv) cn)))) args s 0 0 (fun _ => False)) (F0 m 5 ls []) := by
    intro n_5
    induction n_5 with
    | zero => intro k  ls hm; exact absurd hm (Nat.not_lt_zero _)
    | succ n_5 ih_5 =>
      intro k  ls hm_5 hk hw hl
      refine lv_iload hx hb d_MO_paidBy_5 (lv_at hl 4 rfl) ?_
      refine lv_aload_n hx hb d_MO_paidBy_7 rfl (lv_at hl 0 rfl) ?_
      refine gf_MO_110 hc hw d_MO_paidBy_8 (v := .int (nI cn)) (congrArg Value.int (hM.1)) ?_
      refine q_icmp_ge (tgt := 115) hc (by omega) (by omega) d_MO_paidBy_11 (by decide) (fun c_1 => ?_) (fun c_1 => ?_)
      · have hkc : k = cn := by omega
        subst hkc
        refine lv_iload_n hx hb d_MO_paidBy_115 rfl (lv_at hl 3 rfl) ?_
        exact R_i hc hr hlocks (rfl) d_MO_paidBy_116
      · obtain ⟨⟨hi1, hi2, hi3, hi4, hi5, hi6⟩, hi7, hi8⟩ := hI.2 k (by omega)
        refine lv_aload_n hx hb d_MO_paidBy_14 rfl (lv_at hl 0 rfl) ?_
        refine gf_MO_43 hc hw d_MO_paidBy_15 ?_
        refine lv_iload hx hb d_MO_paidBy_18 (lv_at hl 4 rfl) ?_
        rcases ho : an k with _ | a
        · refine r_iald hc hw (h := 70) (n := 24) (i := k) (fun _ => rfl) (by omega) (by omega) (by decide) d_MO_paidBy_20 (v := .int ((-9))) (congrArg Value.int ((hM.2 (k) (by omega)).2.2.2.2.1.trans (by rw [ho]; rfl))) ?_
          refine lv_istore (lv' := [(5, .int ((-9))), (0, .ref (wad g 58)), (1, .int (nI pj)), (2, .int (nI d)), (3, .int (nI (pdS lw pj d fr to dy an (lsc g fr hv) k))), (4, .int (nI k))]) hx hb d_MO_paidBy_21 hl (by decide) rfl (fun ls hl => ?_)
          refine lv_iload hx hb d_MO_paidBy_23 (lv_at hl 0 rfl) ?_
          refine lv_bipush (v := (-9)) hx hb d_MO_paidBy_25 (by decide) ?_
          refine u_icmp_eq (tgt := 109) (X := (-9)) (Y := (-9)) hc (by decide) (by decide) d_MO_paidBy_27 (by decide) (fun c_2 => ?_) (fun c_2 => ?_)
          · refine lv_iinc (v := nI (k + 1)) (lv' := [(4, .int (nI (k + 1))), (5, .int ((-9))), (0, .ref (wad g 58)), (1, .int (nI pj)), (2, .int (nI d)), (3, .int (nI (pdS lw pj d fr to dy an (lsc g fr hv) k)))]) hx hb d_MO_paidBy_109 hl (k := 5) rfl (nI_inc1 _) (by decide) rfl (fun ls hl => ?_)
            refine lv_goto (tgt := 5) hx hb d_MO_paidBy_112 (by decide) ?_
            have hl : lv_has ls 6 [(4, .int (nI (k + 1))), (5, .int ((-9))), (0, .ref (wad g 58)), (1, .int (nI pj)), (2, .int (nI d)), (3, .int (nI (pdS lw pj d fr to dy an (lsc g fr hv) (k + 1))))] := by rw [show pdS lw pj d fr to dy an (lsc g fr hv) (k + 1) = pdS lw pj d fr to dy an (lsc g fr hv) k from by (show pdS lw pj d fr to dy an (lsc g fr hv) k + pdT lw pj d fr to dy an (lsc g fr hv) k = _; (first | rw [pdT_n ho] | rw [pdT_s ho]); (repeat' split) <;> first | rfl | omega)]; exact hl
            exact ih_5 (k + 1) _ (by omega) (by omega) hw (lv_sub hl [2, 3, 4, 5, 0] rfl)
          · exact absurd c_2 (by decide)
        · obtain ⟨ha1, ha2, ha3, ha4, ha5⟩ := (hI.2 k (by omega)).2.1 a ho
          have hda := (hI.2 a (by omega)).1.2.2.2.2.2
          have hfa := (hI.2 a (by omega)).1.1
          have hs1 := hs k (by omega)
          have hs2 := hs a (by omega)
          refine r_iald hc hw (h := 70) (n := 24) (i := k) (fun _ => rfl) (by omega) (by omega) (by decide) d_MO_paidBy_20 (v := .int (nI a)) (congrArg Value.int ((hM.2 (k) (by omega)).2.2.2.2.1.trans (by rw [ho]; rfl))) ?_
          refine lv_istore (lv' := [(5, .int (nI a)), (0, .ref (wad g 58)), (1, .int (nI pj)), (2, .int (nI d)), (3, .int (nI (pdS lw pj d fr to dy an (lsc g fr hv) k))), (4, .int (nI k))]) hx hb d_MO_paidBy_21 hl (by decide) rfl (fun ls hl => ?_)
          refine lv_iload hx hb d_MO_paidBy_23 (lv_at hl 0 rfl) ?_
          refine lv_bipush (v := (-9)) hx hb d_MO_paidBy_25 (by decide) ?_
          refine u_icmp_eq (tgt := 109) (X := ((a : Nat) : Int)) (Y := (-9)) hc (nI_tI (by omega)) (by decide) d_MO_paidBy_27 (by decide) (fun c_3 => ?_) (fun c_3 => ?_)
          · exact absurd c_3 (by omega)
          · refine lv_aload_n hx hb d_MO_paidBy_30 rfl (lv_at hl 1 rfl) ?_
            refine gf_MO_40 hc hw d_MO_paidBy_31 ?_
            refine lv_iload hx hb d_MO_paidBy_34 (lv_at hl 0 rfl) ?_
            refine r_iald hc hw (h := 69) (n := 24) (i := a) (fun _ => rfl) (by omega) (by omega) (by decide) d_MO_paidBy_36 (v := .int (nI (dy a))) (congrArg Value.int ((hM.2 (a) (by omega)).2.2.2.1)) ?_
            refine lv_iload_n hx hb d_MO_paidBy_37 rfl (lv_at hl 3 rfl) ?_
            refine q_icmp_gt (tgt := 109) hc (by omega) (by omega) d_MO_paidBy_38 (by decide) (fun c_4 => ?_) (fun c_4 => ?_)
            · refine lv_iinc (v := nI (k + 1)) (lv' := [(4, .int (nI (k + 1))), (5, .int (nI a)), (0, .ref (wad g 58)), (1, .int (nI pj)), (2, .int (nI d)), (3, .int (nI (pdS lw pj d fr to dy an (lsc g fr hv) k)))]) hx hb d_MO_paidBy_109 hl (k := 5) rfl (nI_inc1 _) (by decide) rfl (fun ls hl => ?_)
              refine lv_goto (tgt := 5) hx hb d_MO_paidBy_112 (by decide) ?_
              have hl : lv_has ls 6 [(4, .int (nI (k + 1))), (5, .int (nI a)), (0, .ref (wad g 58)), (1, .int (nI pj)), (2, .int (nI d)), (3, .int (nI (pdS lw pj d fr to dy an (lsc g fr hv) (k + 1))))] := by rw [show pdS lw pj d fr to dy an (lsc g fr hv) (k + 1) = pdS lw pj d fr to dy an (lsc g fr hv) k from by (show pdS lw pj d fr to dy an (lsc g fr hv) k + pdT lw pj d fr to dy an (lsc g fr hv) k = _; (first | rw [pdT_n ho] | rw [pdT_s ho]); (repeat' split) <;> first | rfl | omega)]; exact hl
              exact ih_5 (k + 1) _ (by omega) (by omega) hw (lv_sub hl [2, 3, 4, 5, 0] rfl)
            · refine lv_iload_n hx hb d_MO_paidBy_41 rfl (lv_at hl 4 rfl) ?_
              refine lv_aload_n hx hb d_MO_paidBy_42 rfl (lv_at hl 1 rfl) ?_
              refine gf_MO_31 hc hw d_MO_paidBy_43 ?_
              refine lv_iload hx hb d_MO_paidBy_46 (lv_at hl 5 rfl) ?_
              refine r_iald hc hw (h := 66) (n := 24) (i := k) (fun _ => rfl) (by omega) (by omega) (by decide) d_MO_paidBy_48 (v := .int (nI (fr k))) (congrArg Value.int ((hM.2 (k) (by omega)).1)) ?_
              refine lv_iload_n hx hb d_MO_paidBy_49 rfl (lv_at hl 2 rfl) ?_
              refine q_icmp_ne (tgt := 72) hc (by omega) (by omega) d_MO_paidBy_50 (by decide) (fun c_5 => ?_) (fun c_5 => ?_)
              · refine lv_iconst (v := nI 0) hx hb d_MO_paidBy_72 (by decide) ?_
                refine q_iadd hc d_MO_paidBy_73 ?_
                refine lv_istore_n (lv' := [(3, .int (nI ((pdS lw pj d fr to dy an (lsc g fr hv) k) + 0))), (5, .int (nI a)), (0, .ref (wad g 58)), (1, .int (nI pj)), (2, .int (nI d)), (4, .int (nI k))]) hx hb d_MO_paidBy_74 rfl hl (by decide) rfl (fun ls hl => ?_)
                refine lv_iload_n hx hb d_MO_paidBy_75 rfl (lv_at hl 0 rfl) ?_
                refine lv_aload_n hx hb d_MO_paidBy_76 rfl (lv_at hl 2 rfl) ?_
                refine gf_MO_31 hc hw d_MO_paidBy_77 ?_
                refine lv_iload hx hb d_MO_paidBy_80 (lv_at hl 1 rfl) ?_
                refine r_iald hc hw (h := 66) (n := 24) (i := a) (fun _ => rfl) (by omega) (by omega) (by decide) d_MO_paidBy_82 (v := .int (nI (fr a))) (congrArg Value.int ((hM.2 (a) (by omega)).1)) ?_
                refine lv_iload_n hx hb d_MO_paidBy_83 rfl (lv_at hl 3 rfl) ?_
                refine q_icmp_ne (tgt := 106) hc (by omega) (by omega) d_MO_paidBy_84 (by decide) (fun c_6 => ?_) (fun c_6 => ?_)
                · refine lv_iconst (v := nI 0) hx hb d_MO_paidBy_106 (by decide) ?_
                  refine q_iadd hc d_MO_paidBy_107 ?_
                  refine lv_istore_n (lv' := [(3, .int (nI (((pdS lw pj d fr to dy an (lsc g fr hv) k) + 0) + 0))), (5, .int (nI a)), (0, .ref (wad g 58)), (1, .int (nI pj)), (2, .int (nI d)), (4, .int (nI k))]) hx hb d_MO_paidBy_108 rfl hl (by decide) rfl (fun ls hl => ?_)
                  refine lv_iinc (v := nI (k + 1)) (lv' := [(4, .int (nI (k + 1))), (3, .int (nI (((pdS lw pj d fr to dy an (lsc g fr hv) k) + 0) + 0))), (5, .int (nI a)), (0, .ref (wad g 58)), (1, .int (nI pj)), (2, .int (nI d))]) hx hb d_MO_paidBy_109 hl (k := 5) rfl (nI_inc1 _) (by decide) rfl (fun ls hl => ?_)
                  refine lv_goto (tgt := 5) hx hb d_MO_paidBy_112 (by decide) ?_
                  have hl : lv_has ls 6 [(4, .int (nI (k + 1))), (3, .int (nI (pdS lw pj d fr to dy an (lsc g fr hv) (k + 1)))), (5, .int (nI a)), (0, .ref (wad g 58)), (1, .int (nI pj)), (2, .int (nI d))] := by rw [show pdS lw pj d fr to dy an (lsc g fr hv) (k + 1) = ((pdS lw pj d fr to dy an (lsc g fr hv) k) + 0) + 0 from by (show pdS lw pj d fr to dy an (lsc g fr hv) k + pdT lw pj d fr to dy an (lsc g fr hv) k = _; (first | rw [pdT_n ho] | rw [pdT_s ho]); (repeat' split) <;> first | rfl | omega)]; exact hl
                  exact ih_5 (k + 1) _ (by omega) (by omega) hw (lv_sub hl [3, 4, 5, 1, 0] rfl)
                · refine lv_aload_n hx hb d_MO_paidBy_87 rfl (lv_at hl 2 rfl) ?_
                  refine lv_aload_n hx hb d_MO_paidBy_88 rfl (lv_at hl 2 rfl) ?_
                  refine lv_iload hx hb d_MO_paidBy_89 (lv_at hl 1 rfl) ?_
                  refine kRV hc hw lk_MO_133 (As := [.int (nI a)]) (rest := [.ref (wad g 58), .int (nI ((pdS lw pj d fr to dy an (lsc g fr hv) k) + 0))]) (c_MO_scaleOf l D g _ pc cn fr to hv dy an af hI hM hpc hK (a) (by omega)) (rc_MO hw) ⟨Nat.le_of_ble_eq_true rfl, Nat.le_of_ble_eq_true rfl⟩ ⟨Nat.le_refl _, Nat.le_refl _⟩ rfl hl rfl (Nat.le_of_ble_eq_true rfl) d_MO_paidBy_91 ?_
                  refine lv_aload_n hx hb d_MO_paidBy_94 rfl (lv_at hl 2 rfl) ?_
                  refine lv_iload hx hb d_MO_paidBy_95 (lv_at hl 5 rfl) ?_
                  refine kRV hc hw lk_MO_133 (As := [.int (nI k)]) (rest := [.int (nI (lsc g fr hv a)), .ref (wad g 58), .int (nI ((pdS lw pj d fr to dy an (lsc g fr hv) k) + 0))]) (c_MO_scaleOf l D g _ pc cn fr to hv dy an af hI hM hpc hK (k) (by omega)) (rc_MO hw) ⟨Nat.le_of_ble_eq_true rfl, Nat.le_of_ble_eq_true rfl⟩ ⟨Nat.le_refl _, Nat.le_refl _⟩ rfl hl rfl (Nat.le_of_ble_eq_true rfl) d_MO_paidBy_97 ?_
                  refine kRV hc hw lk_MO_136 (As := [.int (nI (lsc g fr hv a)), .int (nI (lsc g fr hv k))]) (rest := [.int (nI ((pdS lw pj d fr to dy an (lsc g fr hv) k) + 0))]) (c_MO_pays l D g _ lw (lsc g fr hv a) (lsc g fr hv k) (by omega) (by omega) hlw h6) (rc_MO hw) ⟨Nat.le_of_ble_eq_true rfl, Nat.le_of_ble_eq_true rfl⟩ ⟨Nat.le_refl _, Nat.le_refl _⟩ rfl hl rfl (Nat.le_of_ble_eq_true rfl) d_MO_paidBy_100 ?_
                  refine lv_goto (tgt := 107) hx hb d_MO_paidBy_103 (by decide) ?_
                  refine q_iadd hc d_MO_paidBy_107 ?_
                  refine lv_istore_n (lv' := [(3, .int (nI (((pdS lw pj d fr to dy an (lsc g fr hv) k) + 0) + (pys lw (lsc g fr hv a) (lsc g fr hv k))))), (5, .int (nI a)), (0, .ref (wad g 58)), (1, .int (nI pj)), (2, .int (nI d)), (4, .int (nI k))]) hx hb d_MO_paidBy_108 rfl hl (by decide) rfl (fun ls hl => ?_)
                  refine lv_iinc (v := nI (k + 1)) (lv' := [(4, .int (nI (k + 1))), (3, .int (nI (((pdS lw pj d fr to dy an (lsc g fr hv) k) + 0) + (pys lw (lsc g fr hv a) (lsc g fr hv k))))), (5, .int (nI a)), (0, .ref (wad g 58)), (1, .int (nI pj)), (2, .int (nI d))]) hx hb d_MO_paidBy_109 hl (k := 5) rfl (nI_inc1 _) (by decide) rfl (fun ls hl => ?_)
                  refine lv_goto (tgt := 5) hx hb d_MO_paidBy_112 (by decide) ?_
                  have hl : lv_has ls 6 [(4, .int (nI (k + 1))), (3, .int (nI (pdS lw pj d fr to dy an (lsc g fr hv) (k + 1)))), (5, .int (nI a)), (0, .ref (wad g 58)), (1, .int (nI pj)), (2, .int (nI d))] := by rw [show pdS lw pj d fr to dy an (lsc g fr hv) (k + 1) = ((pdS lw pj d fr to dy an (lsc g fr hv) k) + 0) + (pys lw (lsc g fr hv a) (lsc g fr hv k)) from by (show pdS lw pj d fr to dy an (lsc g fr hv) k + pdT lw pj d fr to dy an (lsc g fr hv) k = _; (first | rw [pdT_n ho] | rw [pdT_s ho]); (repeat' split) <;> first | rfl | omega)]; exact hl
                  exact ih_5 (k + 1) _ (by omega) (by omega) hw (lv_sub hl [3, 4, 5, 1, 0] rfl)
              · refine lv_aload_n hx hb d_MO_paidBy_53 rfl (lv_at hl 1 rfl) ?_
                refine lv_aload_n hx hb d_MO_paidBy_54 rfl (lv_at hl 1 rfl) ?_
                refine lv_iload hx hb d_MO_paidBy_55 (lv_at hl 5 rfl) ?_
                refine kRV hc hw lk_MO_133 (As := [.int (nI k)]) (rest := [.ref (wad g 58), .int (nI (pdS lw pj d fr to dy an (lsc g fr hv) k))]) (c_MO_scaleOf l D g _ pc cn fr to hv dy an af hI hM hpc hK (k) (by omega)) (rc_MO hw) ⟨Nat.le_of_ble_eq_true rfl, Nat.le_of_ble_eq_true rfl⟩ ⟨Nat.le_refl _, Nat.le_refl _⟩ rfl hl rfl (Nat.le_of_ble_eq_true rfl) d_MO_paidBy_57 ?_
                refine lv_aload_n hx hb d_MO_paidBy_60 rfl (lv_at hl 1 rfl) ?_
                refine lv_iload hx hb d_MO_paidBy_61 (lv_at hl 0 rfl) ?_
                refine kRV hc hw lk_MO_133 (As := [.int (nI a)]) (rest := [.int (nI (lsc g fr hv k)), .ref (wad g 58), .int (nI (pdS lw pj d fr to dy an (lsc g fr hv) k))]) (c_MO_scaleOf l D g _ pc cn fr to hv dy an af hI hM hpc hK (a) (by omega)) (rc_MO hw) ⟨Nat.le_of_ble_eq_true rfl, Nat.le_of_ble_eq_true rfl⟩ ⟨Nat.le_refl _, Nat.le_refl _⟩ rfl hl rfl (Nat.le_of_ble_eq_true rfl) d_MO_paidBy_63 ?_
                refine kRV hc hw lk_MO_136 (As := [.int (nI (lsc g fr hv k)), .int (nI (lsc g fr hv a))]) (rest := [.int (nI (pdS lw pj d fr to dy an (lsc g fr hv) k))]) (c_MO_pays l D g _ lw (lsc g fr hv k) (lsc g fr hv a) (by omega) (by omega) hlw h6) (rc_MO hw) ⟨Nat.le_of_ble_eq_true rfl, Nat.le_of_ble_eq_true rfl⟩ ⟨Nat.le_refl _, Nat.le_refl _⟩ rfl hl rfl (Nat.le_of_ble_eq_true rfl) d_MO_paidBy_66 ?_
                refine lv_goto (tgt := 73) hx hb d_MO_paidBy_69 (by decide) ?_
                refine q_iadd hc d_MO_paidBy_73 ?_
                refine lv_istore_n (lv' := [(3, .int (nI ((pdS lw pj d fr to dy an (lsc g fr hv) k) + (pys lw (lsc g fr hv k) (lsc g fr hv a))))), (5, .int (nI a)), (0, .ref (wad g 58)), (1, .int (nI pj)), (2, .int (nI d)), (4, .int (nI k))]) hx hb d_MO_paidBy_74 rfl hl (by decide) rfl (fun ls hl => ?_)
                refine lv_iload_n hx hb d_MO_paidBy_75 rfl (lv_at hl 0 rfl) ?_
                refine lv_aload_n hx hb d_MO_paidBy_76 rfl (lv_at hl 2 rfl) ?_
                refine gf_MO_31 hc hw d_MO_paidBy_77 ?_
                refine lv_iload hx hb d_MO_paidBy_80 (lv_at hl 1 rfl) ?_
                refine r_iald hc hw (h := 66) (n := 24) (i := a) (fun _ => rfl) (by omega) (by omega) (by decide) d_MO_paidBy_82 (v := .int (nI (fr a))) (congrArg Value.int ((hM.2 (a) (by omega)).1)) ?_
                refine lv_iload_n hx hb d_MO_paidBy_83 rfl (lv_at hl 3 rfl) ?_
                refine q_icmp_ne (tgt := 106) hc (by omega) (by omega) d_MO_paidBy_84 (by decide) (fun c_7 => ?_) (fun c_7 => ?_)
                · refine lv_iconst (v := nI 0) hx hb d_MO_paidBy_106 (by decide) ?_
                  refine q_iadd hc d_MO_paidBy_107 ?_
                  refine lv_istore_n (lv' := [(3, .int (nI (((pdS lw pj d fr to dy an (lsc g fr hv) k) + (pys lw (lsc g fr hv k) (lsc g fr hv a))) + 0))), (5, .int (nI a)), (0, .ref (wad g 58)), (1, .int (nI pj)), (2, .int (nI d)), (4, .int (nI k))]) hx hb d_MO_paidBy_108 rfl hl (by decide) rfl (fun ls hl => ?_)
                  refine lv_iinc (v := nI (k + 1)) (lv' := [(4, .int (nI (k + 1))), (3, .int (nI (((pdS lw pj d fr to dy an (lsc g fr hv) k) + (pys lw (lsc g fr hv k) (lsc g fr hv a))) + 0))), (5, .int (nI a)), (0, .ref (wad g 58)), (1, .int (nI pj)), (2, .int (nI d))]) hx hb d_MO_paidBy_109 hl (k := 5) rfl (nI_inc1 _) (by decide) rfl (fun ls hl => ?_)
                  refine lv_goto (tgt := 5) hx hb d_MO_paidBy_112 (by decide) ?_
                  have hl : lv_has ls 6 [(4, .int (nI (k + 1))), (3, .int (nI (pdS lw pj d fr to dy an (lsc g fr hv) (k + 1)))), (5, .int (nI a)), (0, .ref (wad g 58)), (1, .int (nI pj)), (2, .int (nI d))] := by rw [show pdS lw pj d fr to dy an (lsc g fr hv) (k + 1) = ((pdS lw pj d fr to dy an (lsc g fr hv) k) + (pys lw (lsc g fr hv k) (lsc g fr hv a))) + 0 from by (show pdS lw pj d fr to dy an (lsc g fr hv) k + pdT lw pj d fr to dy an (lsc g fr hv) k = _; (first | rw [pdT_n ho] | rw [pdT_s ho]); (repeat' split) <;> first | rfl | omega)]; exact hl
                  exact ih_5 (k + 1) _ (by omega) (by omega) hw (lv_sub hl [3, 4, 5, 1, 0] rfl)
                · refine lv_aload_n hx hb d_MO_paidBy_87 rfl (lv_at hl 2 rfl) ?_
                  refine lv_aload_n hx hb d_MO_paidBy_88 rfl (lv_at hl 2 rfl) ?_
                  refine lv_iload hx hb d_MO_paidBy_89 (lv_at hl 1 rfl) ?_
                  refine kRV hc hw lk_MO_133 (As := [.int (nI a)]) (rest := [.ref (wad g 58), .int (nI ((pdS lw pj d fr to dy an (lsc g fr hv) k) + (pys lw (lsc g fr hv k) (lsc g fr hv a))))]) (c_MO_scaleOf l D g _ pc cn fr to hv dy an af hI hM hpc hK (a) (by omega)) (rc_MO hw) ⟨Nat.le_of_ble_eq_true rfl, Nat.le_of_ble_eq_true rfl⟩ ⟨Nat.le_refl _, Nat.le_refl _⟩ rfl hl rfl (Nat.le_of_ble_eq_true rfl) d_MO_paidBy_91 ?_
                  refine lv_aload_n hx hb d_MO_paidBy_94 rfl (lv_at hl 2 rfl) ?_
                  refine lv_iload hx hb d_MO_paidBy_95 (lv_at hl 5 rfl) ?_
                  refine kRV hc hw lk_MO_133 (As := [.int (nI k)]) (rest := [.int (nI (lsc g fr hv a)), .ref (wad g 58), .int (nI ((pdS lw pj d fr to dy an (lsc g fr hv) k) + (pys lw (lsc g fr hv k) (lsc g fr hv a))))]) (c_MO_scaleOf l D g _ pc cn fr to hv dy an af hI hM hpc hK (k) (by omega)) (rc_MO hw) ⟨Nat.le_of_ble_eq_true rfl, Nat.le_of_ble_eq_true rfl⟩ ⟨Nat.le_refl _, Nat.le_refl _⟩ rfl hl rfl (Nat.le_of_ble_eq_true rfl) d_MO_paidBy_97 ?_
                  refine kRV hc hw lk_MO_136 (As := [.int (nI (lsc g fr hv a)), .int (nI (lsc g fr hv k))]) (rest := [.int (nI ((pdS lw pj d fr to dy an (lsc g fr hv) k) + (pys lw (lsc g fr hv k) (lsc g fr hv a))))]) (c_MO_pays l D g _ lw (lsc g fr hv a) (lsc g fr hv k) (by omega) (by omega) hlw h6) (rc_MO hw) ⟨Nat.le_of_ble_eq_true rfl, Nat.le_of_ble_eq_true rfl⟩ ⟨Nat.le_refl _, Nat.le_refl _⟩ rfl hl rfl (Nat.le_of_ble_eq_true rfl) d_MO_paidBy_100 ?_
                  refine lv_goto (tgt := 107) hx hb d_MO_paidBy_103 (by decide) ?_
                  refine q_iadd hc d_MO_paidBy_107 ?_
                  refine lv_istore_n (lv' := [(3, .int (nI (((pdS lw pj d fr to dy an (lsc g fr hv) k) + (pys lw (lsc g fr hv k) (lsc g fr hv a))) + (pys lw (lsc g fr hv a) (lsc g fr hv k))))), (5, .int (nI a)), (0, .ref (wad g 58)), (1, .int (nI pj)), (2, .int (nI d)), (4, .int (nI k))]) hx hb d_MO_paidBy_108 rfl hl (by decide) rfl (fun ls hl => ?_)
                  refine lv_iinc (v := nI (k + 1)) (lv' := [(4, .int (nI (k + 1))), (3, .int (nI (((pdS lw pj d fr to dy an (lsc g fr hv) k) + (pys lw (lsc g fr hv k) (lsc g fr hv a))) + (pys lw (lsc g fr hv a) (lsc g fr hv k))))), (5, .int (nI a)), (0, .ref (wad g 58)), (1, .int (nI pj)), (2, .int (nI d))]) hx hb d_MO_paidBy_109 hl (k := 5) rfl (nI_inc1 _) (by decide) rfl (fun ls hl => ?_)
                  refine lv_goto (tgt := 5) hx hb d_MO_paidBy_112 (by decide) ?_
                  have hl : lv_has ls 6 [(4, .int (nI (k + 1))), (3, .int (nI (pdS lw pj d fr to dy an (lsc g fr hv) (k + 1)))), (5, .int (nI a)), (0, .ref (wad g 58)), (1, .int (nI pj)), (2, .int (nI d))] := by rw [show pdS lw pj d fr to dy an (lsc g fr hv) (k + 1) = ((pdS lw pj d fr to dy an (lsc g fr hv) k) + (pys lw (lsc g fr hv k) (lsc g fr hv a))) + (pys lw (lsc g fr hv a) (lsc g fr hv k)) from by (show pdS lw pj d fr to dy an (lsc g fr hv) k + pdT lw pj d fr to dy an (lsc g fr hv) k = _; (first | rw [pdT_n ho] | rw [pdT_s ho]); (repeat' split) <;> first | rfl | omega)]; exact hl
                  exact ih_5 (k + 1) _ (by omega) (by omega) hw (lv_sub hl [3, 4, 5, 1, 0] rfl)
  have hl : lv_has ls 6 [(4, .int (nI 0)), (3, .int (nI (pdS lw pj d fr to dy an (lsc g fr hv) 0))), (0, .ref (wad g 58)), (1, .int (nI pj)), (2, .int (nI d))] := by rw [show pdS lw pj d fr to dy an (lsc g fr hv) 0 = 0 from by rfl]; exact hl
  exact loop_5 _ 0 _ (Nat.lt_succ_self _) (by omega) hw (lv_sub hl [2, 3, 4, 1, 0] rfl)
set_option maxHeartbeats 4000000 in
theorem c_MO_owed (l : Launch) (D : va_G) (g : wG) (F : wF) (pc cn : Nat) (fr to hv dy : Nat → Nat) (an af : Nat → Option Nat) (hI : LI pc cn fr to hv dy an af) (hM : LM F cn fr to hv dy an af) (hpc : pc ≤ 6) (hK : ∀ q, q < pc → F 62 q = nI (wK g q) ∧ wK g q ≤ 2) (by0 o d : Nat) (hby : by0 < pc) (ho1 : o < pc) (hd : d ≤ 99) : CR l y_MO_owed b_MO_owed 7 (Option.some Jvm.ClassFile.FieldType.int) 2 D g F [.ref (wad g 58), .int (nI by0), .int (nI o), .int (nI d)] (.int (nI (owS by0 o d fr to dy an (lsc g fr hv) cn))) := by
  refine CR.start rfl (Nat.le_of_ble_eq_true rfl) ?_
  intro p e s m args below meth c A ls hc hr hlocks hw hl
  have hl : lv_has ls 7 [(0, .ref (wad g 58)), (1, .int (nI by0)), (2, .int (nI o)), (3, .int (nI d))] := hl
  have hx := hc.1
  have hb := hc.2.1
  have hcn := hI.1
  refine lv_iconst (v := nI 0) hx hb d_MO_owed_0 (by decide) ?_
  refine lv_istore (lv' := [(4, .int (nI 0)), (0, .ref (wad g 58)), (1, .int (nI by0)), (2, .int (nI o)), (3, .int (nI d))]) hx hb d_MO_owed_1 hl (by decide) rfl (fun ls hl => ?_)
  refine lv_iconst (v := nI 0) hx hb d_MO_owed_3 (by decide) ?_
  refine lv_istore (lv' := [(5, .int (nI 0)), (4, .int (nI 0)), (0, .ref (wad g 58)), (1, .int (nI by0)), (2, .int (nI o)), (3, .int (nI d))]) hx hb d_MO_owed_4 hl (by decide) rfl (fun ls hl => ?_)
  have loop_6 : ∀ (n_6 : Nat) (k : Nat)  (ls : Array Slot), (cn - k) < n_6 → (k ≤ cn) → Wd D g F A s.heap s.heap [] s → lv_has ls 7 [(0, .ref (wad g 58)), (1, .int (nI by0)), (2, .int (nI o)), (3, .int (nI d)), (4, .int (nI (owS by0 o d fr to dy an (lsc g fr hv) k))), (5, .int (nI k))] → W p l e (rmc 2 0 0) s m args below meth c s.heap [] 0 0 (MQ below (k2_QcV (.int (nI (owS by0 o d fr to dy an (lsc g fr hv) cn)))) args s 0 0 (fun _ => False)) (F0 m 6 ls []) := by
    intro n_6
    induction n_6 with
    | zero => intro k  ls hm; exact absurd hm (Nat.not_lt_zero _)
    | succ n_6 ih_6 =>
      intro k  ls hm_6 hk hw hl
      refine lv_iload hx hb d_MO_owed_6 (lv_at hl 5 rfl) ?_
      refine lv_aload_n hx hb d_MO_owed_8 rfl (lv_at hl 0 rfl) ?_
      refine gf_MO_110 hc hw d_MO_owed_9 (v := .int (nI cn)) (congrArg Value.int (hM.1)) ?_
      refine q_icmp_ge (tgt := 119) hc (by omega) (by omega) d_MO_owed_12 (by decide) (fun c_1 => ?_) (fun c_1 => ?_)
      · have hkc : k = cn := by omega
        subst hkc
        refine lv_iload hx hb d_MO_owed_119 (lv_at hl 4 rfl) ?_
        exact R_i hc hr hlocks (rfl) d_MO_owed_121
      · obtain ⟨⟨hi1, hi2, hi3, hi4, hi5, hi6⟩, hi7, hi8⟩ := hI.2 k (by omega)
        rcases ho : an k with _ | a
        · refine lv_aload_n hx hb d_MO_owed_15 rfl (lv_at hl 0 rfl) ?_
          refine gf_MO_40 hc hw d_MO_owed_16 ?_
          refine lv_iload hx hb d_MO_owed_19 (lv_at hl 5 rfl) ?_
          refine r_iald hc hw (h := 69) (n := 24) (i := k) (fun _ => rfl) (by omega) (by omega) (by decide) d_MO_owed_21 (v := .int (nI (dy k))) (congrArg Value.int ((hM.2 (k) (by omega)).2.2.2.1)) ?_
          refine lv_iload_n hx hb d_MO_owed_22 rfl (lv_at hl 3 rfl) ?_
          refine q_icmp_gt (tgt := 58) hc (by omega) (by omega) d_MO_owed_23 (by decide) (fun c_2 => ?_) (fun c_2 => ?_)
          · refine lv_iconst (v := nI 0) hx hb d_MO_owed_58 (by decide) ?_
            refine lv_istore (lv' := [(6, .int (nI 0)), (0, .ref (wad g 58)), (1, .int (nI by0)), (2, .int (nI o)), (3, .int (nI d)), (4, .int (nI (owS by0 o d fr to dy an (lsc g fr hv) k))), (5, .int (nI k))]) hx hb d_MO_owed_59 hl (by decide) rfl (fun ls hl => ?_)
            refine lv_iload hx hb d_MO_owed_61 (lv_at hl 5 rfl) ?_
            refine lv_iload hx hb d_MO_owed_63 (lv_at hl 0 rfl) ?_
            refine q_if_eq (tgt := 109) hc (by omega) d_MO_owed_65 (by decide) (fun c_3 => ?_) (fun c_3 => ?_)
            · refine lv_iconst (v := nI 0) hx hb d_MO_owed_109 (by decide) ?_
              refine q_iadd hc d_MO_owed_110 ?_
              refine lv_istore (lv' := [(4, .int (nI ((owS by0 o d fr to dy an (lsc g fr hv) k) + 0))), (6, .int (nI 0)), (0, .ref (wad g 58)), (1, .int (nI by0)), (2, .int (nI o)), (3, .int (nI d)), (5, .int (nI k))]) hx hb d_MO_owed_111 hl (by decide) rfl (fun ls hl => ?_)
              refine lv_iinc (v := nI (k + 1)) (lv' := [(5, .int (nI (k + 1))), (4, .int (nI ((owS by0 o d fr to dy an (lsc g fr hv) k) + 0))), (6, .int (nI 0)), (0, .ref (wad g 58)), (1, .int (nI by0)), (2, .int (nI o)), (3, .int (nI d))]) hx hb d_MO_owed_113 hl (k := 6) rfl (nI_inc1 _) (by decide) rfl (fun ls hl => ?_)
              refine lv_goto (tgt := 6) hx hb d_MO_owed_116 (by decide) ?_
              have hl : lv_has ls 7 [(5, .int (nI (k + 1))), (4, .int (nI (owS by0 o d fr to dy an (lsc g fr hv) (k + 1)))), (6, .int (nI 0)), (0, .ref (wad g 58)), (1, .int (nI by0)), (2, .int (nI o)), (3, .int (nI d))] := by rw [show owS by0 o d fr to dy an (lsc g fr hv) (k + 1) = (owS by0 o d fr to dy an (lsc g fr hv) k) + 0 from by (show owS by0 o d fr to dy an (lsc g fr hv) k + (if to k = by0 ∧ fr k = o then owT d dy an (lsc g fr hv) k else 0) = _; (first | rw [owT_n ho] | rw [owT_s ho]); (repeat' split) <;> first | rfl | omega | (rw [Nat.mul_comm]) | (rw [Nat.mul_comm]; omega))]; exact hl
              exact ih_6 (k + 1) _ (by omega) (by omega) hw (lv_sub hl [3, 4, 5, 6, 1, 0] rfl)
            · exact absurd c_3 (by first | omega | decide)
          · refine lv_aload_n hx hb d_MO_owed_26 rfl (lv_at hl 0 rfl) ?_
            refine gf_MO_43 hc hw d_MO_owed_27 ?_
            refine lv_iload hx hb d_MO_owed_30 (lv_at hl 5 rfl) ?_
            refine r_iald hc hw (h := 70) (n := 24) (i := k) (fun _ => rfl) (by omega) (by omega) (by decide) d_MO_owed_32 (v := .int ((-9))) (congrArg Value.int ((hM.2 k (by omega)).2.2.2.2.1.trans (by rw [ho]; rfl))) ?_
            refine lv_bipush (v := (-9)) hx hb d_MO_owed_33 (by decide) ?_
            refine u_icmp_eq (tgt := 54) (X := (-9)) (Y := (-9)) hc (by decide) (by decide) d_MO_owed_35 (by decide) (fun c_4 => ?_) (fun c_4 => ?_)
            · refine lv_iconst (v := nI 1) hx hb d_MO_owed_54 (by decide) ?_
              refine lv_goto (tgt := 59) hx hb d_MO_owed_55 (by decide) ?_
              refine lv_istore (lv' := [(6, .int (nI 1)), (0, .ref (wad g 58)), (1, .int (nI by0)), (2, .int (nI o)), (3, .int (nI d)), (4, .int (nI (owS by0 o d fr to dy an (lsc g fr hv) k))), (5, .int (nI k))]) hx hb d_MO_owed_59 hl (by decide) rfl (fun ls hl => ?_)
              refine lv_iload hx hb d_MO_owed_61 (lv_at hl 5 rfl) ?_
              refine lv_iload hx hb d_MO_owed_63 (lv_at hl 0 rfl) ?_
              refine q_if_eq (tgt := 109) hc (by omega) d_MO_owed_65 (by decide) (fun c_5 => ?_) (fun c_5 => ?_)
              · exact absurd c_5 (by first | omega | decide)
              · refine lv_aload_n hx hb d_MO_owed_68 rfl (lv_at hl 1 rfl) ?_
                refine gf_MO_31 hc hw d_MO_owed_69 ?_
                refine lv_iload hx hb d_MO_owed_72 (lv_at hl 6 rfl) ?_
                refine r_iald hc hw (h := 66) (n := 24) (i := k) (fun _ => rfl) (by omega) (by omega) (by decide) d_MO_owed_74 (v := .int (nI (fr k))) (congrArg Value.int ((hM.2 (k) (by omega)).1)) ?_
                refine lv_iload_n hx hb d_MO_owed_75 rfl (lv_at hl 3 rfl) ?_
                refine q_icmp_ne (tgt := 109) hc (by omega) (by omega) d_MO_owed_76 (by decide) (fun c_6 => ?_) (fun c_6 => ?_)
                · refine lv_iconst (v := nI 0) hx hb d_MO_owed_109 (by decide) ?_
                  refine q_iadd hc d_MO_owed_110 ?_
                  refine lv_istore (lv' := [(4, .int (nI ((owS by0 o d fr to dy an (lsc g fr hv) k) + 0))), (6, .int (nI 1)), (0, .ref (wad g 58)), (1, .int (nI by0)), (2, .int (nI o)), (3, .int (nI d)), (5, .int (nI k))]) hx hb d_MO_owed_111 hl (by decide) rfl (fun ls hl => ?_)
                  refine lv_iinc (v := nI (k + 1)) (lv' := [(5, .int (nI (k + 1))), (4, .int (nI ((owS by0 o d fr to dy an (lsc g fr hv) k) + 0))), (6, .int (nI 1)), (0, .ref (wad g 58)), (1, .int (nI by0)), (2, .int (nI o)), (3, .int (nI d))]) hx hb d_MO_owed_113 hl (k := 6) rfl (nI_inc1 _) (by decide) rfl (fun ls hl => ?_)
                  refine lv_goto (tgt := 6) hx hb d_MO_owed_116 (by decide) ?_
                  have hl : lv_has ls 7 [(5, .int (nI (k + 1))), (4, .int (nI (owS by0 o d fr to dy an (lsc g fr hv) (k + 1)))), (6, .int (nI 1)), (0, .ref (wad g 58)), (1, .int (nI by0)), (2, .int (nI o)), (3, .int (nI d))] := by rw [show owS by0 o d fr to dy an (lsc g fr hv) (k + 1) = (owS by0 o d fr to dy an (lsc g fr hv) k) + 0 from by (show owS by0 o d fr to dy an (lsc g fr hv) k + (if to k = by0 ∧ fr k = o then owT d dy an (lsc g fr hv) k else 0) = _; (first | rw [owT_n ho] | rw [owT_s ho]); (repeat' split) <;> first | rfl | omega | (rw [Nat.mul_comm]) | (rw [Nat.mul_comm]; omega))]; exact hl
                  exact ih_6 (k + 1) _ (by omega) (by omega) hw (lv_sub hl [3, 4, 5, 6, 1, 0] rfl)
                · refine lv_aload_n hx hb d_MO_owed_79 rfl (lv_at hl 1 rfl) ?_
                  refine gf_MO_34 hc hw d_MO_owed_80 ?_
                  refine lv_iload hx hb d_MO_owed_83 (lv_at hl 6 rfl) ?_
                  refine r_iald hc hw (h := 67) (n := 24) (i := k) (fun _ => rfl) (by omega) (by omega) (by decide) d_MO_owed_85 (v := .int (nI (to k))) (congrArg Value.int ((hM.2 (k) (by omega)).2.1)) ?_
                  refine lv_iload_n hx hb d_MO_owed_86 rfl (lv_at hl 2 rfl) ?_
                  refine q_icmp_ne (tgt := 109) hc (by omega) (by omega) d_MO_owed_87 (by decide) (fun c_7 => ?_) (fun c_7 => ?_)
                  · refine lv_iconst (v := nI 0) hx hb d_MO_owed_109 (by decide) ?_
                    refine q_iadd hc d_MO_owed_110 ?_
                    refine lv_istore (lv' := [(4, .int (nI ((owS by0 o d fr to dy an (lsc g fr hv) k) + 0))), (6, .int (nI 1)), (0, .ref (wad g 58)), (1, .int (nI by0)), (2, .int (nI o)), (3, .int (nI d)), (5, .int (nI k))]) hx hb d_MO_owed_111 hl (by decide) rfl (fun ls hl => ?_)
                    refine lv_iinc (v := nI (k + 1)) (lv' := [(5, .int (nI (k + 1))), (4, .int (nI ((owS by0 o d fr to dy an (lsc g fr hv) k) + 0))), (6, .int (nI 1)), (0, .ref (wad g 58)), (1, .int (nI by0)), (2, .int (nI o)), (3, .int (nI d))]) hx hb d_MO_owed_113 hl (k := 6) rfl (nI_inc1 _) (by decide) rfl (fun ls hl => ?_)
                    refine lv_goto (tgt := 6) hx hb d_MO_owed_116 (by decide) ?_
                    have hl : lv_has ls 7 [(5, .int (nI (k + 1))), (4, .int (nI (owS by0 o d fr to dy an (lsc g fr hv) (k + 1)))), (6, .int (nI 1)), (0, .ref (wad g 58)), (1, .int (nI by0)), (2, .int (nI o)), (3, .int (nI d))] := by rw [show owS by0 o d fr to dy an (lsc g fr hv) (k + 1) = (owS by0 o d fr to dy an (lsc g fr hv) k) + 0 from by (show owS by0 o d fr to dy an (lsc g fr hv) k + (if to k = by0 ∧ fr k = o then owT d dy an (lsc g fr hv) k else 0) = _; (first | rw [owT_n ho] | rw [owT_s ho]); (repeat' split) <;> first | rfl | omega | (rw [Nat.mul_comm]) | (rw [Nat.mul_comm]; omega))]; exact hl
                    exact ih_6 (k + 1) _ (by omega) (by omega) hw (lv_sub hl [3, 4, 5, 6, 1, 0] rfl)
                  · refine lv_aload_n hx hb d_MO_owed_90 rfl (lv_at hl 1 rfl) ?_
                    refine lv_iload hx hb d_MO_owed_91 (lv_at hl 6 rfl) ?_
                    refine kRV hc hw lk_MO_133 (As := [.int (nI k)]) (rest := [.int (nI (owS by0 o d fr to dy an (lsc g fr hv) k))]) (c_MO_scaleOf l D g _ pc cn fr to hv dy an af hI hM hpc hK (k) (by omega)) (rc_MO hw) ⟨Nat.le_of_ble_eq_true rfl, Nat.le_of_ble_eq_true rfl⟩ ⟨Nat.le_refl _, Nat.le_refl _⟩ rfl hl rfl (Nat.le_of_ble_eq_true rfl) d_MO_owed_93 ?_
                    refine lv_iload_n hx hb d_MO_owed_96 rfl (lv_at hl 4 rfl) ?_
                    refine lv_aload_n hx hb d_MO_owed_97 rfl (lv_at hl 1 rfl) ?_
                    refine gf_MO_40 hc hw d_MO_owed_98 ?_
                    refine lv_iload hx hb d_MO_owed_101 (lv_at hl 6 rfl) ?_
                    refine r_iald hc hw (h := 69) (n := 24) (i := k) (fun _ => rfl) (by omega) (by omega) (by decide) d_MO_owed_103 (v := .int (nI (dy k))) (congrArg Value.int ((hM.2 (k) (by omega)).2.2.2.1)) ?_
                    refine q_isub hc (by omega) d_MO_owed_104 ?_
                    refine q_imul hc d_MO_owed_105 ?_
                    refine lv_goto (tgt := 110) hx hb d_MO_owed_106 (by decide) ?_
                    refine q_iadd hc d_MO_owed_110 ?_
                    refine lv_istore (lv' := [(4, .int (nI ((owS by0 o d fr to dy an (lsc g fr hv) k) + ((lsc g fr hv k) * (d - (dy k)))))), (6, .int (nI 1)), (0, .ref (wad g 58)), (1, .int (nI by0)), (2, .int (nI o)), (3, .int (nI d)), (5, .int (nI k))]) hx hb d_MO_owed_111 hl (by decide) rfl (fun ls hl => ?_)
                    refine lv_iinc (v := nI (k + 1)) (lv' := [(5, .int (nI (k + 1))), (4, .int (nI ((owS by0 o d fr to dy an (lsc g fr hv) k) + ((lsc g fr hv k) * (d - (dy k)))))), (6, .int (nI 1)), (0, .ref (wad g 58)), (1, .int (nI by0)), (2, .int (nI o)), (3, .int (nI d))]) hx hb d_MO_owed_113 hl (k := 6) rfl (nI_inc1 _) (by decide) rfl (fun ls hl => ?_)
                    refine lv_goto (tgt := 6) hx hb d_MO_owed_116 (by decide) ?_
                    have hl : lv_has ls 7 [(5, .int (nI (k + 1))), (4, .int (nI (owS by0 o d fr to dy an (lsc g fr hv) (k + 1)))), (6, .int (nI 1)), (0, .ref (wad g 58)), (1, .int (nI by0)), (2, .int (nI o)), (3, .int (nI d))] := by rw [show owS by0 o d fr to dy an (lsc g fr hv) (k + 1) = (owS by0 o d fr to dy an (lsc g fr hv) k) + ((lsc g fr hv k) * (d - (dy k))) from by (show owS by0 o d fr to dy an (lsc g fr hv) k + (if to k = by0 ∧ fr k = o then owT d dy an (lsc g fr hv) k else 0) = _; (first | rw [owT_n ho] | rw [owT_s ho]); (repeat' split) <;> first | rfl | omega | (rw [Nat.mul_comm]) | (rw [Nat.mul_comm]; omega))]; exact hl
                    exact ih_6 (k + 1) _ (by omega) (by omega) hw (lv_sub hl [3, 4, 5, 6, 1, 0] rfl)
            · exact absurd c_4 (by decide)
        · obtain ⟨ha1, ha2, ha3, ha4, ha5⟩ := (hI.2 k (by omega)).2.1 a ho
          have hda := (hI.2 a (by omega)).1.2.2.2.2.2
          refine lv_aload_n hx hb d_MO_owed_15 rfl (lv_at hl 0 rfl) ?_
          refine gf_MO_40 hc hw d_MO_owed_16 ?_
          refine lv_iload hx hb d_MO_owed_19 (lv_at hl 5 rfl) ?_
          refine r_iald hc hw (h := 69) (n := 24) (i := k) (fun _ => rfl) (by omega) (by omega) (by decide) d_MO_owed_21 (v := .int (nI (dy k))) (congrArg Value.int ((hM.2 (k) (by omega)).2.2.2.1)) ?_
          refine lv_iload_n hx hb d_MO_owed_22 rfl (lv_at hl 3 rfl) ?_
          refine q_icmp_gt (tgt := 58) hc (by omega) (by omega) d_MO_owed_23 (by decide) (fun c_8 => ?_) (fun c_8 => ?_)
          · refine lv_iconst (v := nI 0) hx hb d_MO_owed_58 (by decide) ?_
            refine lv_istore (lv' := [(6, .int (nI 0)), (0, .ref (wad g 58)), (1, .int (nI by0)), (2, .int (nI o)), (3, .int (nI d)), (4, .int (nI (owS by0 o d fr to dy an (lsc g fr hv) k))), (5, .int (nI k))]) hx hb d_MO_owed_59 hl (by decide) rfl (fun ls hl => ?_)
            refine lv_iload hx hb d_MO_owed_61 (lv_at hl 5 rfl) ?_
            refine lv_iload hx hb d_MO_owed_63 (lv_at hl 0 rfl) ?_
            refine q_if_eq (tgt := 109) hc (by omega) d_MO_owed_65 (by decide) (fun c_9 => ?_) (fun c_9 => ?_)
            · refine lv_iconst (v := nI 0) hx hb d_MO_owed_109 (by decide) ?_
              refine q_iadd hc d_MO_owed_110 ?_
              refine lv_istore (lv' := [(4, .int (nI ((owS by0 o d fr to dy an (lsc g fr hv) k) + 0))), (6, .int (nI 0)), (0, .ref (wad g 58)), (1, .int (nI by0)), (2, .int (nI o)), (3, .int (nI d)), (5, .int (nI k))]) hx hb d_MO_owed_111 hl (by decide) rfl (fun ls hl => ?_)
              refine lv_iinc (v := nI (k + 1)) (lv' := [(5, .int (nI (k + 1))), (4, .int (nI ((owS by0 o d fr to dy an (lsc g fr hv) k) + 0))), (6, .int (nI 0)), (0, .ref (wad g 58)), (1, .int (nI by0)), (2, .int (nI o)), (3, .int (nI d))]) hx hb d_MO_owed_113 hl (k := 6) rfl (nI_inc1 _) (by decide) rfl (fun ls hl => ?_)
              refine lv_goto (tgt := 6) hx hb d_MO_owed_116 (by decide) ?_
              have hl : lv_has ls 7 [(5, .int (nI (k + 1))), (4, .int (nI (owS by0 o d fr to dy an (lsc g fr hv) (k + 1)))), (6, .int (nI 0)), (0, .ref (wad g 58)), (1, .int (nI by0)), (2, .int (nI o)), (3, .int (nI d))] := by rw [show owS by0 o d fr to dy an (lsc g fr hv) (k + 1) = (owS by0 o d fr to dy an (lsc g fr hv) k) + 0 from by (show owS by0 o d fr to dy an (lsc g fr hv) k + (if to k = by0 ∧ fr k = o then owT d dy an (lsc g fr hv) k else 0) = _; (first | rw [owT_n ho] | rw [owT_s ho]); (repeat' split) <;> first | rfl | omega | (rw [Nat.mul_comm]) | (rw [Nat.mul_comm]; omega))]; exact hl
              exact ih_6 (k + 1) _ (by omega) (by omega) hw (lv_sub hl [3, 4, 5, 6, 1, 0] rfl)
            · exact absurd c_9 (by first | omega | decide)
          · refine lv_aload_n hx hb d_MO_owed_26 rfl (lv_at hl 0 rfl) ?_
            refine gf_MO_43 hc hw d_MO_owed_27 ?_
            refine lv_iload hx hb d_MO_owed_30 (lv_at hl 5 rfl) ?_
            refine r_iald hc hw (h := 70) (n := 24) (i := k) (fun _ => rfl) (by omega) (by omega) (by decide) d_MO_owed_32 (v := .int (nI a)) (congrArg Value.int ((hM.2 k (by omega)).2.2.2.2.1.trans (by rw [ho]; rfl))) ?_
            refine lv_bipush (v := (-9)) hx hb d_MO_owed_33 (by decide) ?_
            refine u_icmp_eq (tgt := 54) (X := ((a : Nat) : Int)) (Y := (-9)) hc (nI_tI (by omega)) (by decide) d_MO_owed_35 (by decide) (fun c_10 => ?_) (fun c_10 => ?_)
            · exact absurd c_10 (by omega)
            · refine lv_aload_n hx hb d_MO_owed_38 rfl (lv_at hl 0 rfl) ?_
              refine gf_MO_40 hc hw d_MO_owed_39 ?_
              refine lv_aload_n hx hb d_MO_owed_42 rfl (lv_at hl 0 rfl) ?_
              refine gf_MO_43 hc hw d_MO_owed_43 ?_
              refine lv_iload hx hb d_MO_owed_46 (lv_at hl 5 rfl) ?_
              refine r_iald hc hw (h := 70) (n := 24) (i := k) (fun _ => rfl) (by omega) (by omega) (by decide) d_MO_owed_48 (v := .int (nI a)) (congrArg Value.int ((hM.2 k (by omega)).2.2.2.2.1.trans (by rw [ho]; rfl))) ?_
              refine r_iald hc hw (h := 69) (n := 24) (i := a) (fun _ => rfl) (by omega) (by omega) (by decide) d_MO_owed_49 (v := .int (nI (dy a))) (congrArg Value.int ((hM.2 (a) (by omega)).2.2.2.1)) ?_
              refine lv_iload_n hx hb d_MO_owed_50 rfl (lv_at hl 3 rfl) ?_
              refine q_icmp_le (tgt := 58) hc (by omega) (by omega) d_MO_owed_51 (by decide) (fun c_11 => ?_) (fun c_11 => ?_)
              · refine lv_iconst (v := nI 0) hx hb d_MO_owed_58 (by decide) ?_
                refine lv_istore (lv' := [(6, .int (nI 0)), (0, .ref (wad g 58)), (1, .int (nI by0)), (2, .int (nI o)), (3, .int (nI d)), (4, .int (nI (owS by0 o d fr to dy an (lsc g fr hv) k))), (5, .int (nI k))]) hx hb d_MO_owed_59 hl (by decide) rfl (fun ls hl => ?_)
                refine lv_iload hx hb d_MO_owed_61 (lv_at hl 5 rfl) ?_
                refine lv_iload hx hb d_MO_owed_63 (lv_at hl 0 rfl) ?_
                refine q_if_eq (tgt := 109) hc (by omega) d_MO_owed_65 (by decide) (fun c_12 => ?_) (fun c_12 => ?_)
                · refine lv_iconst (v := nI 0) hx hb d_MO_owed_109 (by decide) ?_
                  refine q_iadd hc d_MO_owed_110 ?_
                  refine lv_istore (lv' := [(4, .int (nI ((owS by0 o d fr to dy an (lsc g fr hv) k) + 0))), (6, .int (nI 0)), (0, .ref (wad g 58)), (1, .int (nI by0)), (2, .int (nI o)), (3, .int (nI d)), (5, .int (nI k))]) hx hb d_MO_owed_111 hl (by decide) rfl (fun ls hl => ?_)
                  refine lv_iinc (v := nI (k + 1)) (lv' := [(5, .int (nI (k + 1))), (4, .int (nI ((owS by0 o d fr to dy an (lsc g fr hv) k) + 0))), (6, .int (nI 0)), (0, .ref (wad g 58)), (1, .int (nI by0)), (2, .int (nI o)), (3, .int (nI d))]) hx hb d_MO_owed_113 hl (k := 6) rfl (nI_inc1 _) (by decide) rfl (fun ls hl => ?_)
                  refine lv_goto (tgt := 6) hx hb d_MO_owed_116 (by decide) ?_
                  have hl : lv_has ls 7 [(5, .int (nI (k + 1))), (4, .int (nI (owS by0 o d fr to dy an (lsc g fr hv) (k + 1)))), (6, .int (nI 0)), (0, .ref (wad g 58)), (1, .int (nI by0)), (2, .int (nI o)), (3, .int (nI d))] := by rw [show owS by0 o d fr to dy an (lsc g fr hv) (k + 1) = (owS by0 o d fr to dy an (lsc g fr hv) k) + 0 from by (show owS by0 o d fr to dy an (lsc g fr hv) k + (if to k = by0 ∧ fr k = o then owT d dy an (lsc g fr hv) k else 0) = _; (first | rw [owT_n ho] | rw [owT_s ho]); (repeat' split) <;> first | rfl | omega | (rw [Nat.mul_comm]) | (rw [Nat.mul_comm]; omega))]; exact hl
                  exact ih_6 (k + 1) _ (by omega) (by omega) hw (lv_sub hl [3, 4, 5, 6, 1, 0] rfl)
                · exact absurd c_12 (by first | omega | decide)
              · refine lv_iconst (v := nI 1) hx hb d_MO_owed_54 (by decide) ?_
                refine lv_goto (tgt := 59) hx hb d_MO_owed_55 (by decide) ?_
                refine lv_istore (lv' := [(6, .int (nI 1)), (0, .ref (wad g 58)), (1, .int (nI by0)), (2, .int (nI o)), (3, .int (nI d)), (4, .int (nI (owS by0 o d fr to dy an (lsc g fr hv) k))), (5, .int (nI k))]) hx hb d_MO_owed_59 hl (by decide) rfl (fun ls hl => ?_)
                refine lv_iload hx hb d_MO_owed_61 (lv_at hl 5 rfl) ?_
                refine lv_iload hx hb d_MO_owed_63 (lv_at hl 0 rfl) ?_
                refine q_if_eq (tgt := 109) hc (by omega) d_MO_owed_65 (by decide) (fun c_13 => ?_) (fun c_13 => ?_)
                · exact absurd c_13 (by first | omega | decide)
                · refine lv_aload_n hx hb d_MO_owed_68 rfl (lv_at hl 1 rfl) ?_
                  refine gf_MO_31 hc hw d_MO_owed_69 ?_
                  refine lv_iload hx hb d_MO_owed_72 (lv_at hl 6 rfl) ?_
                  refine r_iald hc hw (h := 66) (n := 24) (i := k) (fun _ => rfl) (by omega) (by omega) (by decide) d_MO_owed_74 (v := .int (nI (fr k))) (congrArg Value.int ((hM.2 (k) (by omega)).1)) ?_
                  refine lv_iload_n hx hb d_MO_owed_75 rfl (lv_at hl 3 rfl) ?_
                  refine q_icmp_ne (tgt := 109) hc (by omega) (by omega) d_MO_owed_76 (by decide) (fun c_14 => ?_) (fun c_14 => ?_)
                  · refine lv_iconst (v := nI 0) hx hb d_MO_owed_109 (by decide) ?_
                    refine q_iadd hc d_MO_owed_110 ?_
                    refine lv_istore (lv' := [(4, .int (nI ((owS by0 o d fr to dy an (lsc g fr hv) k) + 0))), (6, .int (nI 1)), (0, .ref (wad g 58)), (1, .int (nI by0)), (2, .int (nI o)), (3, .int (nI d)), (5, .int (nI k))]) hx hb d_MO_owed_111 hl (by decide) rfl (fun ls hl => ?_)
                    refine lv_iinc (v := nI (k + 1)) (lv' := [(5, .int (nI (k + 1))), (4, .int (nI ((owS by0 o d fr to dy an (lsc g fr hv) k) + 0))), (6, .int (nI 1)), (0, .ref (wad g 58)), (1, .int (nI by0)), (2, .int (nI o)), (3, .int (nI d))]) hx hb d_MO_owed_113 hl (k := 6) rfl (nI_inc1 _) (by decide) rfl (fun ls hl => ?_)
                    refine lv_goto (tgt := 6) hx hb d_MO_owed_116 (by decide) ?_
                    have hl : lv_has ls 7 [(5, .int (nI (k + 1))), (4, .int (nI (owS by0 o d fr to dy an (lsc g fr hv) (k + 1)))), (6, .int (nI 1)), (0, .ref (wad g 58)), (1, .int (nI by0)), (2, .int (nI o)), (3, .int (nI d))] := by rw [show owS by0 o d fr to dy an (lsc g fr hv) (k + 1) = (owS by0 o d fr to dy an (lsc g fr hv) k) + 0 from by (show owS by0 o d fr to dy an (lsc g fr hv) k + (if to k = by0 ∧ fr k = o then owT d dy an (lsc g fr hv) k else 0) = _; (first | rw [owT_n ho] | rw [owT_s ho]); (repeat' split) <;> first | rfl | omega | (rw [Nat.mul_comm]) | (rw [Nat.mul_comm]; omega))]; exact hl
                    exact ih_6 (k + 1) _ (by omega) (by omega) hw (lv_sub hl [3, 4, 5, 6, 1, 0] rfl)
                  · refine lv_aload_n hx hb d_MO_owed_79 rfl (lv_at hl 1 rfl) ?_
                    refine gf_MO_34 hc hw d_MO_owed_80 ?_
                    refine lv_iload hx hb d_MO_owed_83 (lv_at hl 6 rfl) ?_
                    refine r_iald hc hw (h := 67) (n := 24) (i := k) (fun _ => rfl) (by omega) (by omega) (by decide) d_MO_owed_85 (v := .int (nI (to k))) (congrArg Value.int ((hM.2 (k) (by omega)).2.1)) ?_
                    refine lv_iload_n hx hb d_MO_owed_86 rfl (lv_at hl 2 rfl) ?_
                    refine q_icmp_ne (tgt := 109) hc (by omega) (by omega) d_MO_owed_87 (by decide) (fun c_15 => ?_) (fun c_15 => ?_)
                    · refine lv_iconst (v := nI 0) hx hb d_MO_owed_109 (by decide) ?_
                      refine q_iadd hc d_MO_owed_110 ?_
                      refine lv_istore (lv' := [(4, .int (nI ((owS by0 o d fr to dy an (lsc g fr hv) k) + 0))), (6, .int (nI 1)), (0, .ref (wad g 58)), (1, .int (nI by0)), (2, .int (nI o)), (3, .int (nI d)), (5, .int (nI k))]) hx hb d_MO_owed_111 hl (by decide) rfl (fun ls hl => ?_)
                      refine lv_iinc (v := nI (k + 1)) (lv' := [(5, .int (nI (k + 1))), (4, .int (nI ((owS by0 o d fr to dy an (lsc g fr hv) k) + 0))), (6, .int (nI 1)), (0, .ref (wad g 58)), (1, .int (nI by0)), (2, .int (nI o)), (3, .int (nI d))]) hx hb d_MO_owed_113 hl (k := 6) rfl (nI_inc1 _) (by decide) rfl (fun ls hl => ?_)
                      refine lv_goto (tgt := 6) hx hb d_MO_owed_116 (by decide) ?_
                      have hl : lv_has ls 7 [(5, .int (nI (k + 1))), (4, .int (nI (owS by0 o d fr to dy an (lsc g fr hv) (k + 1)))), (6, .int (nI 1)), (0, .ref (wad g 58)), (1, .int (nI by0)), (2, .int (nI o)), (3, .int (nI d))] := by rw [show owS by0 o d fr to dy an (lsc g fr hv) (k + 1) = (owS by0 o d fr to dy an (lsc g fr hv) k) + 0 from by (show owS by0 o d fr to dy an (lsc g fr hv) k + (if to k = by0 ∧ fr k = o then owT d dy an (lsc g fr hv) k else 0) = _; (first | rw [owT_n ho] | rw [owT_s ho]); (repeat' split) <;> first | rfl | omega | (rw [Nat.mul_comm]) | (rw [Nat.mul_comm]; omega))]; exact hl
                      exact ih_6 (k + 1) _ (by omega) (by omega) hw (lv_sub hl [3, 4, 5, 6, 1, 0] rfl)
                    · refine lv_aload_n hx hb d_MO_owed_90 rfl (lv_at hl 1 rfl) ?_
                      refine lv_iload hx hb d_MO_owed_91 (lv_at hl 6 rfl) ?_
                      refine kRV hc hw lk_MO_133 (As := [.int (nI k)]) (rest := [.int (nI (owS by0 o d fr to dy an (lsc g fr hv) k))]) (c_MO_scaleOf l D g _ pc cn fr to hv dy an af hI hM hpc hK (k) (by omega)) (rc_MO hw) ⟨Nat.le_of_ble_eq_true rfl, Nat.le_of_ble_eq_true rfl⟩ ⟨Nat.le_refl _, Nat.le_refl _⟩ rfl hl rfl (Nat.le_of_ble_eq_true rfl) d_MO_owed_93 ?_
                      refine lv_iload_n hx hb d_MO_owed_96 rfl (lv_at hl 4 rfl) ?_
                      refine lv_aload_n hx hb d_MO_owed_97 rfl (lv_at hl 1 rfl) ?_
                      refine gf_MO_40 hc hw d_MO_owed_98 ?_
                      refine lv_iload hx hb d_MO_owed_101 (lv_at hl 6 rfl) ?_
                      refine r_iald hc hw (h := 69) (n := 24) (i := k) (fun _ => rfl) (by omega) (by omega) (by decide) d_MO_owed_103 (v := .int (nI (dy k))) (congrArg Value.int ((hM.2 (k) (by omega)).2.2.2.1)) ?_
                      refine q_isub hc (by omega) d_MO_owed_104 ?_
                      refine q_imul hc d_MO_owed_105 ?_
                      refine lv_goto (tgt := 110) hx hb d_MO_owed_106 (by decide) ?_
                      refine q_iadd hc d_MO_owed_110 ?_
                      refine lv_istore (lv' := [(4, .int (nI ((owS by0 o d fr to dy an (lsc g fr hv) k) + ((lsc g fr hv k) * (d - (dy k)))))), (6, .int (nI 1)), (0, .ref (wad g 58)), (1, .int (nI by0)), (2, .int (nI o)), (3, .int (nI d)), (5, .int (nI k))]) hx hb d_MO_owed_111 hl (by decide) rfl (fun ls hl => ?_)
                      refine lv_iinc (v := nI (k + 1)) (lv' := [(5, .int (nI (k + 1))), (4, .int (nI ((owS by0 o d fr to dy an (lsc g fr hv) k) + ((lsc g fr hv k) * (d - (dy k)))))), (6, .int (nI 1)), (0, .ref (wad g 58)), (1, .int (nI by0)), (2, .int (nI o)), (3, .int (nI d))]) hx hb d_MO_owed_113 hl (k := 6) rfl (nI_inc1 _) (by decide) rfl (fun ls hl => ?_)
                      refine lv_goto (tgt := 6) hx hb d_MO_owed_116 (by decide) ?_
                      have hl : lv_has ls 7 [(5, .int (nI (k + 1))), (4, .int (nI (owS by0 o d fr to dy an (lsc g fr hv) (k + 1)))), (6, .int (nI 1)), (0, .ref (wad g 58)), (1, .int (nI by0)), (2, .int (nI o)), (3, .int (nI d))] := by rw [show owS by0 o d fr to dy an (lsc g fr hv) (k + 1) = (owS by0 o d fr to dy an (lsc g fr hv) k) + ((lsc g fr hv k) * (d - (dy k))) from by (show owS by0 o d fr to dy an (lsc g fr hv) k + (if to k = by0 ∧ fr k = o then owT d dy an (lsc g fr hv) k else 0) = _; (first | rw [owT_n ho] | rw [owT_s ho]); (repeat' split) <;> first | rfl | omega | (rw [Nat.mul_comm]) | (rw [Nat.mul_comm]; omega))]; exact hl
                      exact ih_6 (k + 1) _ (by omega) (by omega) hw (lv_sub hl [3, 4, 5, 6, 1, 0] rfl)
  have hl : lv_has ls 7 [(5, .int (nI 0)), (4, .int (nI (owS by0 o d fr to dy an (lsc g fr hv) 0))), (0, .ref (wad g 58)), (1, .int (nI by0)), (2, .int (nI o)), (3, .int (nI d))] := by rw [show owS by0 o d fr to dy an (lsc g fr hv) 0 = 0 from by rfl]; exact hl
  exact loop_6 _ 0 _ (Nat.lt_succ_self _) (by omega) hw (lv_sub hl [2, 3, 4, 5, 1, 0] rfl)
set_option maxHeartbeats 4000000 in
theorem c_MO_netOf (l : Launch) (D : va_G) (g : wG) (F : wF) (pc cn : Nat) (fr to hv dy : Nat → Nat) (an af : Nat → Option Nat) (hI : LI pc cn fr to hv dy an af) (hM : LM F cn fr to hv dy an af) (hpc : pc ≤ 6) (hK : ∀ q, q < pc → F 62 q = nI (wK g q) ∧ wK g q ≤ 2) (h5 : F 58 5 = nI pc) (pj d : Nat) (hpj : pj < pc) (hd : d ≤ 99) : CR l y_MO_netOf b_MO_netOf 5 (Option.some Jvm.ClassFile.FieldType.int) 3 D g F [.ref (wad g 58), .int (nI pj), .int (nI d)] (.int (ntS pj d fr to dy an (lsc g fr hv) cn)) := by
  refine CR.start rfl (Nat.le_of_ble_eq_true rfl) ?_
  intro p e s m args below meth c A ls hc hr hlocks hw hl
  have hl : lv_has ls 5 [(0, .ref (wad g 58)), (1, .int (nI pj)), (2, .int (nI d))] := hl
  have hx := hc.1
  have hb := hc.2.1
  have hcn := hI.1
  have hall : ∀ k, k < cn → fr k < pc ∧ to k < pc ∧ fr k ≠ to k := fun k hk => ⟨(hI.2 k hk).1.1, (hI.2 k hk).1.2.1, (hI.2 k hk).1.2.2.1⟩
  refine lv_iconst (v := nI 0) hx hb d_MO_netOf_0 (by decide) ?_
  refine lv_istore_n (lv' := [(3, .int (nI 0)), (0, .ref (wad g 58)), (1, .int (nI pj)), (2, .int (nI d))]) hx hb d_MO_netOf_1 rfl hl (by decide) rfl (fun ls hl => ?_)
  refine lv_iconst (v := nI 0) hx hb d_MO_netOf_2 (by decide) ?_
  refine lv_istore (lv' := [(4, .int (nI 0)), (3, .int (nI 0)), (0, .ref (wad g 58)), (1, .int (nI pj)), (2, .int (nI d))]) hx hb d_MO_netOf_3 hl (by decide) rfl (fun ls hl => ?_)
  have loop_5 : ∀ (n_5 : Nat) (q : Nat)  (ls : Array Slot), (pc - q) < n_5 → (q ≤ pc) → Wd D g F A s.heap s.heap [] s → lv_has ls 5 [(0, .ref (wad g 58)), (1, .int (nI pj)), (2, .int (nI d)), (3, .int (ntM pj d fr to dy an (lsc g fr hv) cn q)), (4, .int (nI q))] → W p l e (rmc 3 0 0) s m args below meth c s.heap [] 0 0 (MQ below (k2_QcV (.int (ntS pj d fr to dy an (lsc g fr hv) cn))) args s 0 0 (fun _ => False)) (F0 m 5 ls []) := by
    intro n_5
    induction n_5 with
    | zero => intro q  ls hm; exact absurd hm (Nat.not_lt_zero _)
    | succ n_5 ih_5 =>
      intro q  ls hm_5 hq hw hl
      refine lv_iload hx hb d_MO_netOf_5 (lv_at hl 4 rfl) ?_
      refine lv_aload_n hx hb d_MO_netOf_7 rfl (lv_at hl 0 rfl) ?_
      refine gf_MO_80 hc hw d_MO_netOf_8 (v := .int (nI pc)) (congrArg Value.int (h5)) ?_
      refine q_icmp_ge (tgt := 40) hc (by omega) (by omega) d_MO_netOf_11 (by decide) (fun c_1 => ?_) (fun c_1 => ?_)
      · have hkq : q = pc := by omega
        subst hkq
        refine lv_iload_n hx hb d_MO_netOf_40 rfl (lv_at hl 3 rfl) ?_
        exact R_i hc hr hlocks (by rw [nt_same cn hall]) d_MO_netOf_41
      · refine lv_iload_n hx hb d_MO_netOf_14 rfl (lv_at hl 3 rfl) ?_
        refine lv_aload_n hx hb d_MO_netOf_15 rfl (lv_at hl 0 rfl) ?_
        refine lv_iload hx hb d_MO_netOf_16 (lv_at hl 4 rfl) ?_
        refine lv_iload_n hx hb d_MO_netOf_18 rfl (lv_at hl 1 rfl) ?_
        refine lv_iload_n hx hb d_MO_netOf_19 rfl (lv_at hl 2 rfl) ?_
        refine kRV hc hw lk_MO_142 (As := [.int (nI q), .int (nI pj), .int (nI d)]) (rest := [.int (ntM pj d fr to dy an (lsc g fr hv) cn q)]) (c_MO_owed l D g _ pc cn fr to hv dy an af hI hM hpc hK (q) (pj) (d) (by omega) (by omega) (by omega)) (rc_MO hw) ⟨Nat.le_of_ble_eq_true rfl, Nat.le_of_ble_eq_true rfl⟩ ⟨Nat.le_refl _, Nat.le_refl _⟩ rfl hl rfl (Nat.le_of_ble_eq_true rfl) d_MO_netOf_20 ?_
        refine lv_aload_n hx hb d_MO_netOf_23 rfl (lv_at hl 0 rfl) ?_
        refine lv_iload_n hx hb d_MO_netOf_24 rfl (lv_at hl 1 rfl) ?_
        refine lv_iload hx hb d_MO_netOf_25 (lv_at hl 4 rfl) ?_
        refine lv_iload_n hx hb d_MO_netOf_27 rfl (lv_at hl 2 rfl) ?_
        refine kRV hc hw lk_MO_142 (As := [.int (nI pj), .int (nI q), .int (nI d)]) (rest := [.int (nI (owS q pj d fr to dy an (lsc g fr hv) cn)), .int (ntM pj d fr to dy an (lsc g fr hv) cn q)]) (c_MO_owed l D g _ pc cn fr to hv dy an af hI hM hpc hK (pj) (q) (d) (by omega) (by omega) (by omega)) (rc_MO hw) ⟨Nat.le_of_ble_eq_true rfl, Nat.le_of_ble_eq_true rfl⟩ ⟨Nat.le_refl _, Nat.le_refl _⟩ rfl hl rfl (Nat.le_of_ble_eq_true rfl) d_MO_netOf_28 ?_
        refine lv_isub hx hb d_MO_netOf_31 ?_
        refine lv_iadd hx hb d_MO_netOf_32 ?_
        refine lv_istore_n (lv' := [(3, .int ((ntM pj d fr to dy an (lsc g fr hv) cn q) + ((nI (owS q pj d fr to dy an (lsc g fr hv) cn)) - (nI (owS pj q d fr to dy an (lsc g fr hv) cn))))), (0, .ref (wad g 58)), (1, .int (nI pj)), (2, .int (nI d)), (4, .int (nI q))]) hx hb d_MO_netOf_33 rfl hl (by decide) rfl (fun ls hl => ?_)
        refine lv_iinc (v := nI (q + 1)) (lv' := [(4, .int (nI (q + 1))), (3, .int ((ntM pj d fr to dy an (lsc g fr hv) cn q) + ((nI (owS q pj d fr to dy an (lsc g fr hv) cn)) - (nI (owS pj q d fr to dy an (lsc g fr hv) cn))))), (0, .ref (wad g 58)), (1, .int (nI pj)), (2, .int (nI d))]) hx hb d_MO_netOf_34 hl (k := 4) rfl (nI_inc1 _) (by decide) rfl (fun ls hl => ?_)
        refine lv_goto (tgt := 5) hx hb d_MO_netOf_37 (by decide) ?_
        have hl : lv_has ls 5 [(4, .int (nI (q + 1))), (3, .int (ntM pj d fr to dy an (lsc g fr hv) cn (q + 1))), (0, .ref (wad g 58)), (1, .int (nI pj)), (2, .int (nI d))] := by rw [show ntM pj d fr to dy an (lsc g fr hv) cn (q + 1) = (ntM pj d fr to dy an (lsc g fr hv) cn q) + ((nI (owS q pj d fr to dy an (lsc g fr hv) cn)) - (nI (owS pj q d fr to dy an (lsc g fr hv) cn))) from by rfl]; exact hl
        exact ih_5 (q + 1) _ (by omega) (by omega) hw (lv_sub hl [2, 3, 4, 1, 0] rfl)
  have hl : lv_has ls 5 [(4, .int (nI 0)), (3, .int (ntM pj d fr to dy an (lsc g fr hv) cn 0)), (0, .ref (wad g 58)), (1, .int (nI pj)), (2, .int (nI d))] := by rw [show ntM pj d fr to dy an (lsc g fr hv) cn 0 = nI 0 from by rfl]; exact hl
  exact loop_5 _ 0 _ (Nat.lt_succ_self _) (by omega) hw (lv_sub hl [2, 3, 4, 1, 0] rfl)
set_option maxHeartbeats 4000000 in
theorem c_MO_write_n (l : Launch) (D : va_G) (g : wG) (F : wF) (cn : Nat) (fr to hv dy : Nat → Nat) (an af : Nat → Option Nat) (hM : LM F cn fr to hv dy an af) (j t w d : Nat) (hcn : cn < 24) : CW l y_MO_write b_MO_write 6 (Option.some Jvm.ClassFile.FieldType.int) 0 0 0 D g F [.ref (wad g 58), .int (nI j), .int (nI t), .int (nI w), .int (nI d), .int ((-9))] (fun v g2 u => v = some (.int (nI cn)) ∧ g = g2 ∧ LM u (cn + 1) (va_up fr cn j) (va_up to cn t) (va_up hv cn w) (va_up dy cn d) (va_up an cn none) (va_up af cn none) ∧ u = u2 (u2 (u2 (u2 (u2 (u2 (u2 F 66 cn (nI j)) 67 cn (nI t)) 68 cn (nI w)) 69 cn (nI d)) 70 cn (-9)) 71 cn (oI none)) 58 13 (nI (cn + 1))) := by
  refine CW.start rfl (Nat.le_of_ble_eq_true rfl) ?_
  intro p e s m args below meth c A ls hc hr hlocks hw hl
  have hl : lv_has ls 6 [(0, .ref (wad g 58)), (1, .int (nI j)), (2, .int (nI t)), (3, .int (nI w)), (4, .int (nI d)), (5, .int ((-9)))] := hl
  have hx := hc.1
  have hb := hc.2.1
  refine lv_aload_n hx hb d_MO_write_0 rfl (lv_at hl 0 rfl) ?_
  refine gf_MO_31 hc hw d_MO_write_1 ?_
  refine lv_aload_n hx hb d_MO_write_4 rfl (lv_at hl 0 rfl) ?_
  refine gf_MO_110 hc hw d_MO_write_5 (v := .int (nI cn)) (congrArg Value.int (hM.1)) ?_
  refine lv_iload_n hx hb d_MO_write_8 rfl (lv_at hl 1 rfl) ?_
  refine r_iast hc hw (h := 66) (n := 24) (i := cn) (fun _ => rfl) (by omega) (by omega) (by decide) d_MO_write_9 (fun H locs hw => ?_)
  refine lv_aload_n hx hb d_MO_write_10 rfl (lv_at hl 0 rfl) ?_
  refine gf_MO_34 hc hw d_MO_write_11 ?_
  refine lv_aload_n hx hb d_MO_write_14 rfl (lv_at hl 0 rfl) ?_
  refine gf_MO_110 hc hw d_MO_write_15 (v := .int (nI cn)) (congrArg Value.int ((u2_h (by decide)).trans (hM.1))) ?_
  refine lv_iload_n hx hb d_MO_write_18 rfl (lv_at hl 2 rfl) ?_
  refine r_iast hc hw (h := 67) (n := 24) (i := cn) (fun _ => rfl) (by omega) (by omega) (by decide) d_MO_write_19 (fun H locs hw => ?_)
  refine lv_aload_n hx hb d_MO_write_20 rfl (lv_at hl 0 rfl) ?_
  refine gf_MO_37 hc hw d_MO_write_21 ?_
  refine lv_aload_n hx hb d_MO_write_24 rfl (lv_at hl 0 rfl) ?_
  refine gf_MO_110 hc hw d_MO_write_25 (v := .int (nI cn)) (congrArg Value.int ((u2_h (by decide)).trans ((u2_h (by decide)).trans (hM.1)))) ?_
  refine lv_iload_n hx hb d_MO_write_28 rfl (lv_at hl 3 rfl) ?_
  refine r_iast hc hw (h := 68) (n := 24) (i := cn) (fun _ => rfl) (by omega) (by omega) (by decide) d_MO_write_29 (fun H locs hw => ?_)
  refine lv_aload_n hx hb d_MO_write_30 rfl (lv_at hl 0 rfl) ?_
  refine gf_MO_40 hc hw d_MO_write_31 ?_
  refine lv_aload_n hx hb d_MO_write_34 rfl (lv_at hl 0 rfl) ?_
  refine gf_MO_110 hc hw d_MO_write_35 (v := .int (nI cn)) (congrArg Value.int ((u2_h (by decide)).trans ((u2_h (by decide)).trans ((u2_h (by decide)).trans (hM.1))))) ?_
  refine lv_iload hx hb d_MO_write_38 (lv_at hl 4 rfl) ?_
  refine r_iast hc hw (h := 69) (n := 24) (i := cn) (fun _ => rfl) (by omega) (by omega) (by decide) d_MO_write_40 (fun H locs hw => ?_)
  refine lv_aload_n hx hb d_MO_write_41 rfl (lv_at hl 0 rfl) ?_
  refine gf_MO_43 hc hw d_MO_write_42 ?_
  refine lv_aload_n hx hb d_MO_write_45 rfl (lv_at hl 0 rfl) ?_
  refine gf_MO_110 hc hw d_MO_write_46 (v := .int (nI cn)) (congrArg Value.int ((u2_h (by decide)).trans ((u2_h (by decide)).trans ((u2_h (by decide)).trans ((u2_h (by decide)).trans (hM.1)))))) ?_
  refine lv_bipush (v := (-9)) hx hb d_MO_write_49 (by decide) ?_
  refine r_iast hc hw (h := 70) (n := 24) (i := cn) (fun _ => rfl) (by omega) (by omega) (by decide) d_MO_write_51 (fun H locs hw => ?_)
  refine lv_aload_n hx hb d_MO_write_52 rfl (lv_at hl 0 rfl) ?_
  refine gf_MO_46 hc hw d_MO_write_53 ?_
  refine lv_aload_n hx hb d_MO_write_56 rfl (lv_at hl 0 rfl) ?_
  refine gf_MO_110 hc hw d_MO_write_57 (v := .int (nI cn)) (congrArg Value.int ((u2_h (by decide)).trans ((u2_h (by decide)).trans ((u2_h (by decide)).trans ((u2_h (by decide)).trans ((u2_h (by decide)).trans (hM.1))))))) ?_
  refine lv_iload hx hb d_MO_write_60 (lv_at hl 5 rfl) ?_
  refine r_iast hc hw (h := 71) (n := 24) (i := cn) (fun _ => rfl) (by omega) (by omega) (by decide) d_MO_write_62 (fun H locs hw => ?_)
  refine lv_aload_n hx hb d_MO_write_63 rfl (lv_at hl 0 rfl) ?_
  refine lv_dup hx hb d_MO_write_64 rfl ?_
  refine gf_MO_110 hc hw d_MO_write_65 (v := .int (nI cn)) (congrArg Value.int ((u2_h (by decide)).trans ((u2_h (by decide)).trans ((u2_h (by decide)).trans ((u2_h (by decide)).trans ((u2_h (by decide)).trans ((u2_h (by decide)).trans (hM.1)))))))) ?_
  refine lv_iconst (v := nI 1) hx hb d_MO_write_68 (by decide) ?_
  refine q_iadd hc d_MO_write_69 ?_
  refine pf_MO_110 hc hw d_MO_write_70 (fun H locs hw => ?_)
  refine lv_aload_n hx hb d_MO_write_73 rfl (lv_at hl 0 rfl) ?_
  refine gf_MO_110 hc hw d_MO_write_74 (v := .int (nI (cn + 1))) (congrArg Value.int (u2_same _ _ _ _)) ?_
  refine lv_iconst (v := nI 1) hx hb d_MO_write_77 (by decide) ?_
  refine q_isub hc (by omega) d_MO_write_78 ?_
  exact W_i hc hw hr hlocks (⟨rfl, rfl, LM_w (z := none) hM, rfl⟩) d_MO_write_79
set_option maxHeartbeats 4000000 in
theorem c_MO_write_s (l : Launch) (D : va_G) (g : wG) (F : wF) (cn : Nat) (fr to hv dy : Nat → Nat) (an af : Nat → Option Nat) (hM : LM F cn fr to hv dy an af) (x : Nat) (j t w d : Nat) (hcn : cn < 24) : CW l y_MO_write b_MO_write 6 (Option.some Jvm.ClassFile.FieldType.int) 0 0 0 D g F [.ref (wad g 58), .int (nI j), .int (nI t), .int (nI w), .int (nI d), .int (nI x)] (fun v g2 u => v = some (.int (nI cn)) ∧ g = g2 ∧ LM u (cn + 1) (va_up fr cn j) (va_up to cn t) (va_up hv cn w) (va_up dy cn d) (va_up an cn none) (va_up af cn (some x)) ∧ u = u2 (u2 (u2 (u2 (u2 (u2 (u2 F 66 cn (nI j)) 67 cn (nI t)) 68 cn (nI w)) 69 cn (nI d)) 70 cn (-9)) 71 cn (oI (some x))) 58 13 (nI (cn + 1))) := by
  refine CW.start rfl (Nat.le_of_ble_eq_true rfl) ?_
  intro p e s m args below meth c A ls hc hr hlocks hw hl
  have hl : lv_has ls 6 [(0, .ref (wad g 58)), (1, .int (nI j)), (2, .int (nI t)), (3, .int (nI w)), (4, .int (nI d)), (5, .int (nI x))] := hl
  have hx := hc.1
  have hb := hc.2.1
  refine lv_aload_n hx hb d_MO_write_0 rfl (lv_at hl 0 rfl) ?_
  refine gf_MO_31 hc hw d_MO_write_1 ?_
  refine lv_aload_n hx hb d_MO_write_4 rfl (lv_at hl 0 rfl) ?_
  refine gf_MO_110 hc hw d_MO_write_5 (v := .int (nI cn)) (congrArg Value.int (hM.1)) ?_
  refine lv_iload_n hx hb d_MO_write_8 rfl (lv_at hl 1 rfl) ?_
  refine r_iast hc hw (h := 66) (n := 24) (i := cn) (fun _ => rfl) (by omega) (by omega) (by decide) d_MO_write_9 (fun H locs hw => ?_)
  refine lv_aload_n hx hb d_MO_write_10 rfl (lv_at hl 0 rfl) ?_
  refine gf_MO_34 hc hw d_MO_write_11 ?_
  refine lv_aload_n hx hb d_MO_write_14 rfl (lv_at hl 0 rfl) ?_
  refine gf_MO_110 hc hw d_MO_write_15 (v := .int (nI cn)) (congrArg Value.int ((u2_h (by decide)).trans (hM.1))) ?_
  refine lv_iload_n hx hb d_MO_write_18 rfl (lv_at hl 2 rfl) ?_
  refine r_iast hc hw (h := 67) (n := 24) (i := cn) (fun _ => rfl) (by omega) (by omega) (by decide) d_MO_write_19 (fun H locs hw => ?_)
  refine lv_aload_n hx hb d_MO_write_20 rfl (lv_at hl 0 rfl) ?_
  refine gf_MO_37 hc hw d_MO_write_21 ?_
  refine lv_aload_n hx hb d_MO_write_24 rfl (lv_at hl 0 rfl) ?_
  refine gf_MO_110 hc hw d_MO_write_25 (v := .int (nI cn)) (congrArg Value.int ((u2_h (by decide)).trans ((u2_h (by decide)).trans (hM.1)))) ?_
  refine lv_iload_n hx hb d_MO_write_28 rfl (lv_at hl 3 rfl) ?_
  refine r_iast hc hw (h := 68) (n := 24) (i := cn) (fun _ => rfl) (by omega) (by omega) (by decide) d_MO_write_29 (fun H locs hw => ?_)
  refine lv_aload_n hx hb d_MO_write_30 rfl (lv_at hl 0 rfl) ?_
  refine gf_MO_40 hc hw d_MO_write_31 ?_
  refine lv_aload_n hx hb d_MO_write_34 rfl (lv_at hl 0 rfl) ?_
  refine gf_MO_110 hc hw d_MO_write_35 (v := .int (nI cn)) (congrArg Value.int ((u2_h (by decide)).trans ((u2_h (by decide)).trans ((u2_h (by decide)).trans (hM.1))))) ?_
  refine lv_iload hx hb d_MO_write_38 (lv_at hl 4 rfl) ?_
  refine r_iast hc hw (h := 69) (n := 24) (i := cn) (fun _ => rfl) (by omega) (by omega) (by decide) d_MO_write_40 (fun H locs hw => ?_)
  refine lv_aload_n hx hb d_MO_write_41 rfl (lv_at hl 0 rfl) ?_
  refine gf_MO_43 hc hw d_MO_write_42 ?_
  refine lv_aload_n hx hb d_MO_write_45 rfl (lv_at hl 0 rfl) ?_
  refine gf_MO_110 hc hw d_MO_write_46 (v := .int (nI cn)) (congrArg Value.int ((u2_h (by decide)).trans ((u2_h (by decide)).trans ((u2_h (by decide)).trans ((u2_h (by decide)).trans (hM.1)))))) ?_
  refine lv_bipush (v := (-9)) hx hb d_MO_write_49 (by decide) ?_
  refine r_iast hc hw (h := 70) (n := 24) (i := cn) (fun _ => rfl) (by omega) (by omega) (by decide) d_MO_write_51 (fun H locs hw => ?_)
  refine lv_aload_n hx hb d_MO_write_52 rfl (lv_at hl 0 rfl) ?_
  refine gf_MO_46 hc hw d_MO_write_53 ?_
  refine lv_aload_n hx hb d_MO_write_56 rfl (lv_at hl 0 rfl) ?_
  refine gf_MO_110 hc hw d_MO_write_57 (v := .int (nI cn)) (congrArg Value.int ((u2_h (by decide)).trans ((u2_h (by decide)).trans ((u2_h (by decide)).trans ((u2_h (by decide)).trans ((u2_h (by decide)).trans (hM.1))))))) ?_
  refine lv_iload hx hb d_MO_write_60 (lv_at hl 5 rfl) ?_
  refine r_iast hc hw (h := 71) (n := 24) (i := cn) (fun _ => rfl) (by omega) (by omega) (by decide) d_MO_write_62 (fun H locs hw => ?_)
  refine lv_aload_n hx hb d_MO_write_63 rfl (lv_at hl 0 rfl) ?_
  refine lv_dup hx hb d_MO_write_64 rfl ?_
  refine gf_MO_110 hc hw d_MO_write_65 (v := .int (nI cn)) (congrArg Value.int ((u2_h (by decide)).trans ((u2_h (by decide)).trans ((u2_h (by decide)).trans ((u2_h (by decide)).trans ((u2_h (by decide)).trans ((u2_h (by decide)).trans (hM.1)))))))) ?_
  refine lv_iconst (v := nI 1) hx hb d_MO_write_68 (by decide) ?_
  refine q_iadd hc d_MO_write_69 ?_
  refine pf_MO_110 hc hw d_MO_write_70 (fun H locs hw => ?_)
  refine lv_aload_n hx hb d_MO_write_73 rfl (lv_at hl 0 rfl) ?_
  refine gf_MO_110 hc hw d_MO_write_74 (v := .int (nI (cn + 1))) (congrArg Value.int (u2_same _ _ _ _)) ?_
  refine lv_iconst (v := nI 1) hx hb d_MO_write_77 (by decide) ?_
  refine q_isub hc (by omega) d_MO_write_78 ?_
  exact W_i hc hw hr hlocks (⟨rfl, rfl, LM_w (z := (some x)) hM, rfl⟩) d_MO_write_79
