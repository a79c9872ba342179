/-! printed by wip/gen/meths1.py: small methods -/
set_option maxHeartbeats 4000000 in
theorem c_AP_isWithin (l : Launch) (D : va_G) (g : wG) (F : wF) (p0 p1 p2 : Int32) (a b : Int) (ha : p1.toInt = a) (hb1 : p2.toInt = b) : CR l y_AP_isWithin b_AP_isWithin 3 (Option.some Jvm.ClassFile.FieldType.boolean) 0 D g F [.int p0, .int p1, .int p2] (.int (bI (rng p0 a b))) := by
  refine CR.start rfl (Nat.le_of_ble_eq_true rfl) ?_
  intro p e s m args below meth c A ls hc hr hlocks hw hl
  have hl : lv_has ls 3 [(0, .int p0), (1, .int p1), (2, .int p2)] := hl
  have hx := hc.1
  have hb := hc.2.1
  refine lv_iload_n hx hb d_AP_isWithin_0 rfl (lv_at hl 0 rfl) ?_
  refine lv_iload_n hx hb d_AP_isWithin_1 rfl (lv_at hl 1 rfl) ?_
  refine u_icmp_lt (tgt := 14) (X := (p0).toInt) (Y := (p1).toInt) hc (rfl) (rfl) d_AP_isWithin_2 (by decide) (fun c_1 => ?_) (fun c_1 => ?_)
  · refine lv_iconst (v := nI 0) hx hb d_AP_isWithin_14 (by decide) ?_
    exact R_z hc hr hlocks (by rw [bI_f (show ¬ (rng p0 a b) from by (unfold rng; omega))]; rfl) rfl d_AP_isWithin_15
  · refine lv_iload_n hx hb d_AP_isWithin_5 rfl (lv_at hl 0 rfl) ?_
    refine lv_iload_n hx hb d_AP_isWithin_6 rfl (lv_at hl 2 rfl) ?_
    refine u_icmp_gt (tgt := 14) (X := (p0).toInt) (Y := (p2).toInt) hc (rfl) (rfl) d_AP_isWithin_7 (by decide) (fun c_2 => ?_) (fun c_2 => ?_)
    · refine lv_iconst (v := nI 0) hx hb d_AP_isWithin_14 (by decide) ?_
      exact R_z hc hr hlocks (by rw [bI_f (show ¬ (rng p0 a b) from by (unfold rng; omega))]; rfl) rfl d_AP_isWithin_15
    · refine lv_iconst (v := nI 1) hx hb d_AP_isWithin_10 (by decide) ?_
      refine lv_goto (tgt := 15) hx hb d_AP_isWithin_11 (by decide) ?_
      exact R_z hc hr hlocks (by rw [bI_t (show rng p0 a b from by (unfold rng; omega))]; rfl) rfl d_AP_isWithin_15
set_option maxHeartbeats 4000000 in
theorem c_MO_within (l : Launch) (D : va_G) (g : wG) (F : wF) (p0 p1 p2 : Int32) (a b : Int) (ha : p1.toInt = a) (hb1 : p2.toInt = b) : CR l y_MO_within b_MO_within 3 (Option.some Jvm.ClassFile.FieldType.boolean) 0 D g F [.int p0, .int p1, .int p2] (.int (bI (rng p0 a b))) := by
  refine CR.start rfl (Nat.le_of_ble_eq_true rfl) ?_
  intro p e s m args below meth c A ls hc hr hlocks hw hl
  have hl : lv_has ls 3 [(0, .int p0), (1, .int p1), (2, .int p2)] := hl
  have hx := hc.1
  have hb := hc.2.1
  refine lv_iload_n hx hb d_MO_within_0 rfl (lv_at hl 0 rfl) ?_
  refine lv_iload_n hx hb d_MO_within_1 rfl (lv_at hl 1 rfl) ?_
  refine u_icmp_lt (tgt := 14) (X := (p0).toInt) (Y := (p1).toInt) hc (rfl) (rfl) d_MO_within_2 (by decide) (fun c_1 => ?_) (fun c_1 => ?_)
  · refine lv_iconst (v := nI 0) hx hb d_MO_within_14 (by decide) ?_
    exact R_z hc hr hlocks (by rw [bI_f (show ¬ (rng p0 a b) from by (unfold rng; omega))]; rfl) rfl d_MO_within_15
  · refine lv_iload_n hx hb d_MO_within_5 rfl (lv_at hl 0 rfl) ?_
    refine lv_iload_n hx hb d_MO_within_6 rfl (lv_at hl 2 rfl) ?_
    refine u_icmp_gt (tgt := 14) (X := (p0).toInt) (Y := (p2).toInt) hc (rfl) (rfl) d_MO_within_7 (by decide) (fun c_2 => ?_) (fun c_2 => ?_)
    · refine lv_iconst (v := nI 0) hx hb d_MO_within_14 (by decide) ?_
      exact R_z hc hr hlocks (by rw [bI_f (show ¬ (rng p0 a b) from by (unfold rng; omega))]; rfl) rfl d_MO_within_15
    · refine lv_iconst (v := nI 1) hx hb d_MO_within_10 (by decide) ?_
      refine lv_goto (tgt := 15) hx hb d_MO_within_11 (by decide) ?_
      exact R_z hc hr hlocks (by rw [bI_t (show rng p0 a b from by (unfold rng; omega))]; rfl) rfl d_MO_within_15
set_option maxHeartbeats 4000000 in
theorem c_AP_isDay (l : Launch) (D : va_G) (g : wG) (F : wF) (p0 : Int32) : CR l y_AP_isDay b_AP_isDay 1 (Option.some Jvm.ClassFile.FieldType.boolean) 1 D g F [.int p0] (.int (bI (rng p0 0 99))) := by
  refine CR.start rfl (Nat.le_of_ble_eq_true rfl) ?_
  intro p e s m args below meth c A ls hc hr hlocks hw hl
  have hl : lv_has ls 1 [(0, .int p0)] := hl
  have hx := hc.1
  have hb := hc.2.1
  refine lv_iload_n hx hb d_AP_isDay_0 rfl (lv_at hl 0 rfl) ?_
  refine lv_iconst (v := nI 0) hx hb d_AP_isDay_1 (by decide) ?_
  refine lv_bipush (v := nI 99) hx hb d_AP_isDay_2 (by decide) ?_
  refine kRS hc hw lk_AP_67 (As := [.int p0, .int (nI 0), .int (nI 99)]) (rest := []) (c_AP_isWithin l D g _ (p0) (nI 0) (nI 99) 0 99 (by decide) (by decide)) ⟨Nat.le_of_ble_eq_true rfl, Nat.le_of_ble_eq_true rfl⟩ ⟨Nat.le_refl _, Nat.le_refl _⟩ rfl hl rfl (Nat.le_of_ble_eq_true rfl) d_AP_isDay_4 ?_
  exact R_z hc hr hlocks (rfl) (bI_nar _) d_AP_isDay_7
set_option maxHeartbeats 4000000 in
theorem c_MO_isDay (l : Launch) (D : va_G) (g : wG) (F : wF) (p0 : Int32) : CR l y_MO_isDay b_MO_isDay 1 (Option.some Jvm.ClassFile.FieldType.boolean) 1 D g F [.int p0] (.int (bI (rng p0 0 99))) := by
  refine CR.start rfl (Nat.le_of_ble_eq_true rfl) ?_
  intro p e s m args below meth c A ls hc hr hlocks hw hl
  have hl : lv_has ls 1 [(0, .int p0)] := hl
  have hx := hc.1
  have hb := hc.2.1
  refine lv_iload_n hx hb d_MO_isDay_0 rfl (lv_at hl 0 rfl) ?_
  refine lv_iconst (v := nI 0) hx hb d_MO_isDay_1 (by decide) ?_
  refine lv_bipush (v := nI 99) hx hb d_MO_isDay_2 (by decide) ?_
  refine kRS hc hw lk_MO_76 (As := [.int p0, .int (nI 0), .int (nI 99)]) (rest := []) (c_MO_within l D g _ (p0) (nI 0) (nI 99) 0 99 (by decide) (by decide)) ⟨Nat.le_of_ble_eq_true rfl, Nat.le_of_ble_eq_true rfl⟩ ⟨Nat.le_refl _, Nat.le_refl _⟩ rfl hl rfl (Nat.le_of_ble_eq_true rfl) d_MO_isDay_4 ?_
  exact R_z hc hr hlocks (rfl) (bI_nar _) d_MO_isDay_7
set_option maxHeartbeats 4000000 in
theorem c_MO_isSheet (l : Launch) (D : va_G) (g : wG) (F : wF) (p0 : Int32) : CR l y_MO_isSheet b_MO_isSheet 1 (Option.some Jvm.ClassFile.FieldType.boolean) 1 D g F [.int p0] (.int (bI (rng p0 0 3))) := by
  refine CR.start rfl (Nat.le_of_ble_eq_true rfl) ?_
  intro p e s m args below meth c A ls hc hr hlocks hw hl
  have hl : lv_has ls 1 [(0, .int p0)] := hl
  have hx := hc.1
  have hb := hc.2.1
  refine lv_iload_n hx hb d_MO_isSheet_0 rfl (lv_at hl 0 rfl) ?_
  refine lv_iconst (v := nI 0) hx hb d_MO_isSheet_1 (by decide) ?_
  refine lv_iconst (v := nI 3) hx hb d_MO_isSheet_2 (by decide) ?_
  refine kRS hc hw lk_MO_76 (As := [.int p0, .int (nI 0), .int (nI 3)]) (rest := []) (c_MO_within l D g _ (p0) (nI 0) (nI 3) 0 3 (by decide) (by decide)) ⟨Nat.le_of_ble_eq_true rfl, Nat.le_of_ble_eq_true rfl⟩ ⟨Nat.le_refl _, Nat.le_refl _⟩ rfl hl rfl (Nat.le_of_ble_eq_true rfl) d_MO_isSheet_3 ?_
  exact R_z hc hr hlocks (rfl) (bI_nar _) d_MO_isSheet_6
set_option maxHeartbeats 4000000 in
theorem c_MO_isSort (l : Launch) (D : va_G) (g : wG) (F : wF) (p0 : Int32) : CR l y_MO_isSort b_MO_isSort 1 (Option.some Jvm.ClassFile.FieldType.boolean) 1 D g F [.int p0] (.int (bI (rng p0 0 2))) := by
  refine CR.start rfl (Nat.le_of_ble_eq_true rfl) ?_
  intro p e s m args below meth c A ls hc hr hlocks hw hl
  have hl : lv_has ls 1 [(0, .int p0)] := hl
  have hx := hc.1
  have hb := hc.2.1
  refine lv_iload_n hx hb d_MO_isSort_0 rfl (lv_at hl 0 rfl) ?_
  refine lv_iconst (v := nI 0) hx hb d_MO_isSort_1 (by decide) ?_
  refine lv_iconst (v := nI 2) hx hb d_MO_isSort_2 (by decide) ?_
  refine kRS hc hw lk_MO_76 (As := [.int p0, .int (nI 0), .int (nI 2)]) (rest := []) (c_MO_within l D g _ (p0) (nI 0) (nI 2) 0 2 (by decide) (by decide)) ⟨Nat.le_of_ble_eq_true rfl, Nat.le_of_ble_eq_true rfl⟩ ⟨Nat.le_refl _, Nat.le_refl _⟩ rfl hl rfl (Nat.le_of_ble_eq_true rfl) d_MO_isSort_3 ?_
  exact R_z hc hr hlocks (rfl) (bI_nar _) d_MO_isSort_6
set_option maxHeartbeats 4000000 in
theorem c_AP_pays (l : Launch) (D : va_G) (g : wG) (F : wF) (lw a b : Nat) (ha : a < 2 ^ 30) (hb1 : b < 2 ^ 30) (hw1 : lw ≤ 2) : CR l y_AP_pays b_AP_pays 4 (Option.some Jvm.ClassFile.FieldType.int) 0 D g F [.int (nI lw), .int (nI a), .int (nI b)] (.int (nI (pys lw a b))) := by
  refine CR.start rfl (Nat.le_of_ble_eq_true rfl) ?_
  intro p e s m args below meth c A ls hc hr hlocks hw hl
  have hl : lv_has ls 4 [(0, .int (nI lw)), (1, .int (nI a)), (2, .int (nI b))] := hl
  have hx := hc.1
  have hb := hc.2.1
  refine lv_iload_n hx hb d_AP_pays_0 rfl (lv_at hl 0 rfl) ?_
  refine lv_iconst (v := nI 2) hx hb d_AP_pays_1 (by decide) ?_
  refine q_icmp_eq (tgt := 10) hc (by omega) (by omega) d_AP_pays_2 (by decide) (fun c_1 => ?_) (fun c_1 => ?_)
  · refine lv_iload_n hx hb d_AP_pays_10 rfl (lv_at hl 1 rfl) ?_
    exact R_i hc hr hlocks (by congr 2; unfold pys; split <;> (try split) <;> omega) d_AP_pays_11
  · refine lv_iload_n hx hb d_AP_pays_5 rfl (lv_at hl 1 rfl) ?_
    refine lv_iload_n hx hb d_AP_pays_6 rfl (lv_at hl 2 rfl) ?_
    refine q_icmp_ne (tgt := 12) hc (by omega) (by omega) d_AP_pays_7 (by decide) (fun c_2 => ?_) (fun c_2 => ?_)
    · refine lv_iload_n hx hb d_AP_pays_12 rfl (lv_at hl 1 rfl) ?_
      refine lv_iload_n hx hb d_AP_pays_13 rfl (lv_at hl 2 rfl) ?_
      refine q_icmp_ge (tgt := 21) hc (by omega) (by omega) d_AP_pays_14 (by decide) (fun c_3 => ?_) (fun c_3 => ?_)
      · refine lv_iconst (v := nI 0) hx hb d_AP_pays_21 (by decide) ?_
        refine lv_istore_n (lv' := [(3, .int (nI 0)), (0, .int (nI lw)), (1, .int (nI a)), (2, .int (nI b))]) hx hb d_AP_pays_22 rfl hl (by decide) rfl (fun ls hl => ?_)
        refine lv_iload_n hx hb d_AP_pays_23 rfl (lv_at hl 0 rfl) ?_
        refine lv_iload_n hx hb d_AP_pays_24 rfl (lv_at hl 1 rfl) ?_
        refine q_if_ne (tgt := 32) hc (by omega) d_AP_pays_25 (by decide) (fun c_4 => ?_) (fun c_4 => ?_)
        · refine lv_iconst (v := nI 0) hx hb d_AP_pays_32 (by decide) ?_
          refine q_icmp_ne (tgt := 42) hc (by omega) (by omega) d_AP_pays_33 (by decide) (fun c_5 => ?_) (fun c_5 => ?_)
          · exact absurd c_5 (by first | omega | decide)
          · refine lv_iload_n hx hb d_AP_pays_36 rfl (lv_at hl 2 rfl) ?_
            refine lv_iload_n hx hb d_AP_pays_37 rfl (lv_at hl 3 rfl) ?_
            refine q_iadd hc d_AP_pays_38 ?_
            refine lv_goto (tgt := 43) hx hb d_AP_pays_39 (by decide) ?_
            exact R_i hc hr hlocks (by congr 2; unfold pys; split <;> (try split) <;> omega) d_AP_pays_43
        · refine lv_iconst (v := nI 1) hx hb d_AP_pays_28 (by decide) ?_
          refine lv_goto (tgt := 33) hx hb d_AP_pays_29 (by decide) ?_
          refine q_icmp_ne (tgt := 42) hc (by omega) (by omega) d_AP_pays_33 (by decide) (fun c_6 => ?_) (fun c_6 => ?_)
          · refine lv_iconst (v := nI 0) hx hb d_AP_pays_42 (by decide) ?_
            exact R_i hc hr hlocks (by congr 2; unfold pys; split <;> (try split) <;> omega) d_AP_pays_43
          · exact absurd c_6 (by first | omega | decide)
      · refine lv_iconst (v := nI 1) hx hb d_AP_pays_17 (by decide) ?_
        refine lv_goto (tgt := 22) hx hb d_AP_pays_18 (by decide) ?_
        refine lv_istore_n (lv' := [(3, .int (nI 1)), (0, .int (nI lw)), (1, .int (nI a)), (2, .int (nI b))]) hx hb d_AP_pays_22 rfl hl (by decide) rfl (fun ls hl => ?_)
        refine lv_iload_n hx hb d_AP_pays_23 rfl (lv_at hl 0 rfl) ?_
        refine lv_iload_n hx hb d_AP_pays_24 rfl (lv_at hl 1 rfl) ?_
        refine q_if_ne (tgt := 32) hc (by omega) d_AP_pays_25 (by decide) (fun c_7 => ?_) (fun c_7 => ?_)
        · refine lv_iconst (v := nI 0) hx hb d_AP_pays_32 (by decide) ?_
          refine q_icmp_ne (tgt := 42) hc (by omega) (by omega) d_AP_pays_33 (by decide) (fun c_8 => ?_) (fun c_8 => ?_)
          · refine lv_iconst (v := nI 0) hx hb d_AP_pays_42 (by decide) ?_
            exact R_i hc hr hlocks (by congr 2; unfold pys; split <;> (try split) <;> omega) d_AP_pays_43
          · exact absurd c_8 (by first | omega | decide)
        · refine lv_iconst (v := nI 1) hx hb d_AP_pays_28 (by decide) ?_
          refine lv_goto (tgt := 33) hx hb d_AP_pays_29 (by decide) ?_
          refine q_icmp_ne (tgt := 42) hc (by omega) (by omega) d_AP_pays_33 (by decide) (fun c_9 => ?_) (fun c_9 => ?_)
          · exact absurd c_9 (by first | omega | decide)
          · refine lv_iload_n hx hb d_AP_pays_36 rfl (lv_at hl 2 rfl) ?_
            refine lv_iload_n hx hb d_AP_pays_37 rfl (lv_at hl 3 rfl) ?_
            refine q_iadd hc d_AP_pays_38 ?_
            refine lv_goto (tgt := 43) hx hb d_AP_pays_39 (by decide) ?_
            exact R_i hc hr hlocks (by congr 2; unfold pys; split <;> (try split) <;> omega) d_AP_pays_43
    · refine lv_iload_n hx hb d_AP_pays_10 rfl (lv_at hl 1 rfl) ?_
      exact R_i hc hr hlocks (by congr 2; unfold pys; split <;> (try split) <;> omega) d_AP_pays_11
set_option maxHeartbeats 4000000 in
theorem c_MO_pays (l : Launch) (D : va_G) (g : wG) (F : wF) (lw a b : Nat) (ha : a < 2 ^ 30) (hb1 : b < 2 ^ 30) (hw1 : lw ≤ 2) (h6 : F 58 6 = nI lw) : CR l y_MO_pays b_MO_pays 4 (Option.some Jvm.ClassFile.FieldType.int) 0 D g F [.ref (wad g 58), .int (nI a), .int (nI b)] (.int (nI (pys lw a b))) := by
  refine CR.start rfl (Nat.le_of_ble_eq_true rfl) ?_
  intro p e s m args below meth c A ls hc hr hlocks hw hl
  have hl : lv_has ls 4 [(0, .ref (wad g 58)), (1, .int (nI a)), (2, .int (nI b))] := hl
  have hx := hc.1
  have hb := hc.2.1
  refine lv_iload_n hx hb d_MO_pays_0 rfl (lv_at hl 1 rfl) ?_
  refine lv_iload_n hx hb d_MO_pays_1 rfl (lv_at hl 2 rfl) ?_
  refine q_icmp_eq (tgt := 13) hc (by omega) (by omega) d_MO_pays_2 (by decide) (fun c_1 => ?_) (fun c_1 => ?_)
  · refine lv_iload_n hx hb d_MO_pays_13 rfl (lv_at hl 1 rfl) ?_
    exact R_i hc hr hlocks (by congr 2; unfold pys; split <;> (try split) <;> omega) d_MO_pays_14
  · refine lv_aload_n hx hb d_MO_pays_5 rfl (lv_at hl 0 rfl) ?_
    refine gf_MO_107 hc hw d_MO_pays_6 (v := .int (nI lw)) (congrArg Value.int (h6)) ?_
    refine lv_iconst (v := nI 2) hx hb d_MO_pays_9 (by decide) ?_
    refine q_icmp_ne (tgt := 15) hc (by omega) (by omega) d_MO_pays_10 (by decide) (fun c_2 => ?_) (fun c_2 => ?_)
    · refine lv_iload_n hx hb d_MO_pays_15 rfl (lv_at hl 1 rfl) ?_
      refine lv_iload_n hx hb d_MO_pays_16 rfl (lv_at hl 2 rfl) ?_
      refine q_icmp_ge (tgt := 24) hc (by omega) (by omega) d_MO_pays_17 (by decide) (fun c_3 => ?_) (fun c_3 => ?_)
      · refine lv_iconst (v := nI 0) hx hb d_MO_pays_24 (by decide) ?_
        refine lv_istore_n (lv' := [(3, .int (nI 0)), (0, .ref (wad g 58)), (1, .int (nI a)), (2, .int (nI b))]) hx hb d_MO_pays_25 rfl hl (by decide) rfl (fun ls hl => ?_)
        refine lv_iload_n hx hb d_MO_pays_26 rfl (lv_at hl 0 rfl) ?_
        refine lv_aload_n hx hb d_MO_pays_27 rfl (lv_at hl 1 rfl) ?_
        refine gf_MO_107 hc hw d_MO_pays_28 (v := .int (nI lw)) (congrArg Value.int (h6)) ?_
        refine q_if_ne (tgt := 38) hc (by omega) d_MO_pays_31 (by decide) (fun c_4 => ?_) (fun c_4 => ?_)
        · refine lv_iconst (v := nI 0) hx hb d_MO_pays_38 (by decide) ?_
          refine q_icmp_ne (tgt := 48) hc (by omega) (by omega) d_MO_pays_39 (by decide) (fun c_5 => ?_) (fun c_5 => ?_)
          · exact absurd c_5 (by first | omega | decide)
          · refine lv_iload_n hx hb d_MO_pays_42 rfl (lv_at hl 2 rfl) ?_
            refine lv_iload_n hx hb d_MO_pays_43 rfl (lv_at hl 3 rfl) ?_
            refine q_iadd hc d_MO_pays_44 ?_
            refine lv_goto (tgt := 49) hx hb d_MO_pays_45 (by decide) ?_
            exact R_i hc hr hlocks (by congr 2; unfold pys; split <;> (try split) <;> omega) d_MO_pays_49
        · refine lv_iconst (v := nI 1) hx hb d_MO_pays_34 (by decide) ?_
          refine lv_goto (tgt := 39) hx hb d_MO_pays_35 (by decide) ?_
          refine q_icmp_ne (tgt := 48) hc (by omega) (by omega) d_MO_pays_39 (by decide) (fun c_6 => ?_) (fun c_6 => ?_)
          · refine lv_iconst (v := nI 0) hx hb d_MO_pays_48 (by decide) ?_
            exact R_i hc hr hlocks (by congr 2; unfold pys; split <;> (try split) <;> omega) d_MO_pays_49
          · exact absurd c_6 (by first | omega | decide)
      · refine lv_iconst (v := nI 1) hx hb d_MO_pays_20 (by decide) ?_
        refine lv_goto (tgt := 25) hx hb d_MO_pays_21 (by decide) ?_
        refine lv_istore_n (lv' := [(3, .int (nI 1)), (0, .ref (wad g 58)), (1, .int (nI a)), (2, .int (nI b))]) hx hb d_MO_pays_25 rfl hl (by decide) rfl (fun ls hl => ?_)
        refine lv_iload_n hx hb d_MO_pays_26 rfl (lv_at hl 0 rfl) ?_
        refine lv_aload_n hx hb d_MO_pays_27 rfl (lv_at hl 1 rfl) ?_
        refine gf_MO_107 hc hw d_MO_pays_28 (v := .int (nI lw)) (congrArg Value.int (h6)) ?_
        refine q_if_ne (tgt := 38) hc (by omega) d_MO_pays_31 (by decide) (fun c_7 => ?_) (fun c_7 => ?_)
        · refine lv_iconst (v := nI 0) hx hb d_MO_pays_38 (by decide) ?_
          refine q_icmp_ne (tgt := 48) hc (by omega) (by omega) d_MO_pays_39 (by decide) (fun c_8 => ?_) (fun c_8 => ?_)
          · refine lv_iconst (v := nI 0) hx hb d_MO_pays_48 (by decide) ?_
            exact R_i hc hr hlocks (by congr 2; unfold pys; split <;> (try split) <;> omega) d_MO_pays_49
          · exact absurd c_8 (by first | omega | decide)
        · refine lv_iconst (v := nI 1) hx hb d_MO_pays_34 (by decide) ?_
          refine lv_goto (tgt := 39) hx hb d_MO_pays_35 (by decide) ?_
          refine q_icmp_ne (tgt := 48) hc (by omega) (by omega) d_MO_pays_39 (by decide) (fun c_9 => ?_) (fun c_9 => ?_)
          · exact absurd c_9 (by first | omega | decide)
          · refine lv_iload_n hx hb d_MO_pays_42 rfl (lv_at hl 2 rfl) ?_
            refine lv_iload_n hx hb d_MO_pays_43 rfl (lv_at hl 3 rfl) ?_
            refine q_iadd hc d_MO_pays_44 ?_
            refine lv_goto (tgt := 49) hx hb d_MO_pays_45 (by decide) ?_
            exact R_i hc hr hlocks (by congr 2; unfold pys; split <;> (try split) <;> omega) d_MO_pays_49
    · refine lv_iload_n hx hb d_MO_pays_13 rfl (lv_at hl 1 rfl) ?_
      exact R_i hc hr hlocks (by congr 2; unfold pys; split <;> (try split) <;> omega) d_MO_pays_14
set_option maxHeartbeats 4000000 in
theorem c_TX_personsOf (l : Launch) (D : va_G) (g : wG) (F : wF) (n : Nat) (hn : n < 2 ^ 30) : CR l y_TX_personsOf b_TX_personsOf 1 (Option.some Jvm.ClassFile.FieldType.int) 0 D g F [.int (nI n)] (.int (nI ((n - 1) / 3))) := by
  refine CR.start rfl (Nat.le_of_ble_eq_true rfl) ?_
  intro p e s m args below meth c A ls hc hr hlocks hw hl
  have hl : lv_has ls 1 [(0, .int (nI n))] := hl
  have hx := hc.1
  have hb := hc.2.1
  refine lv_iload_n hx hb d_TX_personsOf_0 rfl (lv_at hl 0 rfl) ?_
  refine lv_iconst (v := nI 1) hx hb d_TX_personsOf_1 (by decide) ?_
  refine q_icmp_ge (tgt := 9) hc (by omega) (by omega) d_TX_personsOf_2 (by decide) (fun c_1 => ?_) (fun c_1 => ?_)
  · refine lv_iload_n hx hb d_TX_personsOf_9 rfl (lv_at hl 0 rfl) ?_
    refine lv_iconst (v := nI 1) hx hb d_TX_personsOf_10 (by decide) ?_
    refine q_isub hc (by omega) d_TX_personsOf_11 ?_
    refine lv_iconst (v := nI 3) hx hb d_TX_personsOf_12 (by decide) ?_
    refine q_idiv hc (by omega) (by decide) (by decide) d_TX_personsOf_13 ?_
    exact R_i hc hr hlocks (by first | rfl | (congr 2; omega)) d_TX_personsOf_14
  · refine lv_iconst (v := nI 0) hx hb d_TX_personsOf_5 (by decide) ?_
    refine lv_goto (tgt := 14) hx hb d_TX_personsOf_6 (by decide) ?_
    exact R_i hc hr hlocks (by first | rfl | (congr 2; omega)) d_TX_personsOf_14
set_option maxHeartbeats 4000000 in
theorem c_TX_letterOf (l : Launch) (D : va_G) (g : wG) (F : wF) (n : Nat) : CR l y_TX_letterOf b_TX_letterOf 1 (Option.some Jvm.ClassFile.FieldType.int) 0 D g F [.int (nI n)] (.int (nI (1 + 3 * n))) := by
  refine CR.start rfl (Nat.le_of_ble_eq_true rfl) ?_
  intro p e s m args below meth c A ls hc hr hlocks hw hl
  have hl : lv_has ls 1 [(0, .int (nI n))] := hl
  have hx := hc.1
  have hb := hc.2.1
  refine lv_iconst (v := nI 1) hx hb d_TX_letterOf_0 (by decide) ?_
  refine lv_iconst (v := nI 3) hx hb d_TX_letterOf_1 (by decide) ?_
  refine lv_iload_n hx hb d_TX_letterOf_2 rfl (lv_at hl 0 rfl) ?_
  refine q_imul hc d_TX_letterOf_3 ?_
  refine q_iadd hc d_TX_letterOf_4 ?_
  exact R_i hc hr hlocks (rfl) d_TX_letterOf_5
set_option maxHeartbeats 4000000 in
theorem c_LE_has (l : Launch) (D : va_G) (g : wG) (F : wF) (cn : Nat) (h7 : F 11 7 = nI cn) (hcn : cn ≤ 24) (p0 : Int32) : CR l y_LE_has b_LE_has 2 (Option.some Jvm.ClassFile.FieldType.boolean) 0 D g F [.ref (wad g 11), .int p0] (.int (bI (inN p0 cn))) := by
  refine CR.start rfl (Nat.le_of_ble_eq_true rfl) ?_
  intro p e s m args below meth c A ls hc hr hlocks hw hl
  have hl : lv_has ls 2 [(0, .ref (wad g 11)), (1, .int p0)] := hl
  have hx := hc.1
  have hb := hc.2.1
  refine lv_iload_n hx hb d_LE_has_0 rfl (lv_at hl 1 rfl) ?_
  refine u_if_lt (tgt := 16) (X := (p0).toInt) hc (rfl) d_LE_has_1 (by decide) (fun c_1 => ?_) (fun c_1 => ?_)
  · refine lv_iconst (v := nI 0) hx hb d_LE_has_16 (by decide) ?_
    exact R_z hc hr hlocks (by rw [bI_f (show ¬ (inN p0 cn) from by (unfold inN; omega))]; rfl) rfl d_LE_has_17
  · refine lv_iload_n hx hb d_LE_has_4 rfl (lv_at hl 1 rfl) ?_
    refine lv_aload_n hx hb d_LE_has_5 rfl (lv_at hl 0 rfl) ?_
    refine gf_LE_33 hc hw d_LE_has_6 (v := .int (nI cn)) (congrArg Value.int (h7)) ?_
    refine u_icmp_ge (tgt := 16) (X := (p0).toInt) (Y := ((cn : Nat) : Int)) hc (rfl) (nI_tI (by omega)) d_LE_has_9 (by decide) (fun c_2 => ?_) (fun c_2 => ?_)
    · refine lv_iconst (v := nI 0) hx hb d_LE_has_16 (by decide) ?_
      exact R_z hc hr hlocks (by rw [bI_f (show ¬ (inN p0 cn) from by (unfold inN; omega))]; rfl) rfl d_LE_has_17
    · refine lv_iconst (v := nI 1) hx hb d_LE_has_12 (by decide) ?_
      refine lv_goto (tgt := 17) hx hb d_LE_has_13 (by decide) ?_
      exact R_z hc hr hlocks (by rw [bI_t (show inN p0 cn from by (unfold inN; omega))]; rfl) rfl d_LE_has_17
set_option maxHeartbeats 4000000 in
theorem c_LE_isFull (l : Launch) (D : va_G) (g : wG) (F : wF) (cn : Nat) (h7 : F 11 7 = nI cn) (hcn : cn ≤ 24) : CR l y_LE_isFull b_LE_isFull 1 (Option.some Jvm.ClassFile.FieldType.boolean) 0 D g F [.ref (wad g 11)] (.int (bI (24 ≤ cn))) := by
  refine CR.start rfl (Nat.le_of_ble_eq_true rfl) ?_
  intro p e s m args below meth c A ls hc hr hlocks hw hl
  have hl : lv_has ls 1 [(0, .ref (wad g 11))] := hl
  have hx := hc.1
  have hb := hc.2.1
  refine lv_aload_n hx hb d_LE_isFull_0 rfl (lv_at hl 0 rfl) ?_
  refine gf_LE_33 hc hw d_LE_isFull_1 (v := .int (nI cn)) (congrArg Value.int (h7)) ?_
  refine lv_bipush (v := nI 24) hx hb d_LE_isFull_4 (by decide) ?_
  refine q_icmp_lt (tgt := 13) hc (by omega) (by omega) d_LE_isFull_6 (by decide) (fun c_1 => ?_) (fun c_1 => ?_)
  · refine lv_iconst (v := nI 0) hx hb d_LE_isFull_13 (by decide) ?_
    exact R_z hc hr hlocks (by rw [bI_f (show ¬ (24 ≤ cn) from by omega)]; rfl) rfl d_LE_isFull_14
  · refine lv_iconst (v := nI 1) hx hb d_LE_isFull_9 (by decide) ?_
    refine lv_goto (tgt := 14) hx hb d_LE_isFull_10 (by decide) ?_
    exact R_z hc hr hlocks (by rw [bI_t (show 24 ≤ cn from by omega)]; rfl) rfl d_LE_isFull_14
set_option maxHeartbeats 4000000 in
theorem c_MO_isPerson (l : Launch) (D : va_G) (g : wG) (F : wF) (pc : Nat) (h5 : F 58 5 = nI pc) (hpc : pc ≤ 6) (p0 : Int32) : CR l y_MO_isPerson b_MO_isPerson 2 (Option.some Jvm.ClassFile.FieldType.boolean) 0 D g F [.ref (wad g 58), .int p0] (.int (bI (inN p0 pc))) := by
  refine CR.start rfl (Nat.le_of_ble_eq_true rfl) ?_
  intro p e s m args below meth c A ls hc hr hlocks hw hl
  have hl : lv_has ls 2 [(0, .ref (wad g 58)), (1, .int p0)] := hl
  have hx := hc.1
  have hb := hc.2.1
  refine lv_iload_n hx hb d_MO_isPerson_0 rfl (lv_at hl 1 rfl) ?_
  refine u_if_lt (tgt := 16) (X := (p0).toInt) hc (rfl) d_MO_isPerson_1 (by decide) (fun c_1 => ?_) (fun c_1 => ?_)
  · refine lv_iconst (v := nI 0) hx hb d_MO_isPerson_16 (by decide) ?_
    exact R_z hc hr hlocks (by rw [bI_f (show ¬ (inN p0 pc) from by (unfold inN; omega))]; rfl) rfl d_MO_isPerson_17
  · refine lv_iload_n hx hb d_MO_isPerson_4 rfl (lv_at hl 1 rfl) ?_
    refine lv_aload_n hx hb d_MO_isPerson_5 rfl (lv_at hl 0 rfl) ?_
    refine gf_MO_80 hc hw d_MO_isPerson_6 (v := .int (nI pc)) (congrArg Value.int (h5)) ?_
    refine u_icmp_ge (tgt := 16) (X := (p0).toInt) (Y := ((pc : Nat) : Int)) hc (rfl) (nI_tI (by omega)) d_MO_isPerson_9 (by decide) (fun c_2 => ?_) (fun c_2 => ?_)
    · refine lv_iconst (v := nI 0) hx hb d_MO_isPerson_16 (by decide) ?_
      exact R_z hc hr hlocks (by rw [bI_f (show ¬ (inN p0 pc) from by (unfold inN; omega))]; rfl) rfl d_MO_isPerson_17
    · refine lv_iconst (v := nI 1) hx hb d_MO_isPerson_12 (by decide) ?_
      refine lv_goto (tgt := 17) hx hb d_MO_isPerson_13 (by decide) ?_
      exact R_z hc hr hlocks (by rw [bI_t (show inN p0 pc from by (unfold inN; omega))]; rfl) rfl d_MO_isPerson_17
set_option maxHeartbeats 4000000 in
theorem c_MO_isLetter (l : Launch) (D : va_G) (g : wG) (F : wF) (cn : Nat) (h13 : F 58 13 = nI cn) (hcn : cn ≤ 24) (p0 : Int32) : CR l y_MO_isLetter b_MO_isLetter 2 (Option.some Jvm.ClassFile.FieldType.boolean) 0 D g F [.ref (wad g 58), .int p0] (.int (bI (inN p0 cn))) := by
  refine CR.start rfl (Nat.le_of_ble_eq_true rfl) ?_
  intro p e s m args below meth c A ls hc hr hlocks hw hl
  have hl : lv_has ls 2 [(0, .ref (wad g 58)), (1, .int p0)] := hl
  have hx := hc.1
  have hb := hc.2.1
  refine lv_iload_n hx hb d_MO_isLetter_0 rfl (lv_at hl 1 rfl) ?_
  refine u_if_lt (tgt := 16) (X := (p0).toInt) hc (rfl) d_MO_isLetter_1 (by decide) (fun c_1 => ?_) (fun c_1 => ?_)
  · refine lv_iconst (v := nI 0) hx hb d_MO_isLetter_16 (by decide) ?_
    exact R_z hc hr hlocks (by rw [bI_f (show ¬ (inN p0 cn) from by (unfold inN; omega))]; rfl) rfl d_MO_isLetter_17
  · refine lv_iload_n hx hb d_MO_isLetter_4 rfl (lv_at hl 1 rfl) ?_
    refine lv_aload_n hx hb d_MO_isLetter_5 rfl (lv_at hl 0 rfl) ?_
    refine gf_MO_110 hc hw d_MO_isLetter_6 (v := .int (nI cn)) (congrArg Value.int (h13)) ?_
    refine u_icmp_ge (tgt := 16) (X := (p0).toInt) (Y := ((cn : Nat) : Int)) hc (rfl) (nI_tI (by omega)) d_MO_isLetter_9 (by decide) (fun c_2 => ?_) (fun c_2 => ?_)
    · refine lv_iconst (v := nI 0) hx hb d_MO_isLetter_16 (by decide) ?_
      exact R_z hc hr hlocks (by rw [bI_f (show ¬ (inN p0 cn) from by (unfold inN; omega))]; rfl) rfl d_MO_isLetter_17
    · refine lv_iconst (v := nI 1) hx hb d_MO_isLetter_12 (by decide) ?_
      refine lv_goto (tgt := 17) hx hb d_MO_isLetter_13 (by decide) ?_
      exact R_z hc hr hlocks (by rw [bI_t (show inN p0 cn from by (unfold inN; omega))]; rfl) rfl d_MO_isLetter_17
set_option maxHeartbeats 4000000 in
theorem c_RW_isNothing (l : Launch) (D : va_G) (g : wG) (F : wF) (k : Nat) (hk : k < 4) (ln : Option Nat) (hln : ∀ x, ln = some x → x ≤ 2) (h1 : F (2 * k + 2) 1 = mI ln) : CR l y_RW_isNothing b_RW_isNothing 1 (Option.some Jvm.ClassFile.FieldType.boolean) 0 D g F [.ref (wad g (2 * k + 2))] (.int (bI (ln = none))) := by
  refine CR.start rfl (Nat.le_of_ble_eq_true rfl) ?_
  intro p e s m args below meth c A ls hc hr hlocks hw hl
  have hl : lv_has ls 1 [(0, .ref (wad g (2 * k + 2)))] := hl
  have hx := hc.1
  have hb := hc.2.1
  refine lv_aload_n hx hb d_RW_isNothing_0 rfl (lv_at hl 0 rfl) ?_
  refine gf_RW_15 hc hw (k := k) (hk) d_RW_isNothing_1 (v := .int (mI ln)) (congrArg Value.int (h1)) ?_
  refine lv_iconst (v := (-1)) hx hb d_RW_isNothing_4 (by decide) ?_
  refine u_icmp_ne (tgt := 12) (X := (mI ln).toInt) (Y := (-1)) hc (rfl) (by decide) d_RW_isNothing_5 (by decide) (fun c_1 => ?_) (fun c_1 => ?_)
  · refine lv_iconst (v := nI 0) hx hb d_RW_isNothing_12 (by decide) ?_
    exact R_z hc hr hlocks (by rw [bI_f (show ¬ (ln = none) from by first | exact (mI_toI hln).1.mp (by assumption) | exact fun q => absurd ((mI_toI hln).1.mpr q) (by assumption))]; rfl) rfl d_RW_isNothing_13
  · refine lv_iconst (v := nI 1) hx hb d_RW_isNothing_8 (by decide) ?_
    refine lv_goto (tgt := 13) hx hb d_RW_isNothing_9 (by decide) ?_
    exact R_z hc hr hlocks (by rw [bI_t (show ln = none from by first | exact (mI_toI hln).1.mp (by assumption) | exact fun q => absurd ((mI_toI hln).1.mpr q) (by assumption))]; rfl) rfl d_RW_isNothing_13
set_option maxHeartbeats 4000000 in
theorem c_RW_hasCells (l : Launch) (D : va_G) (g : wG) (F : wF) (k : Nat) (hk : k < 4) (sz : Nat) (hsz : sz ≤ 40) (h2 : F (2 * k + 2) 2 = nI sz) (p0 p1 : Int32) : CR l y_RW_hasCells b_RW_hasCells 3 (Option.some Jvm.ClassFile.FieldType.boolean) 0 D g F [.ref (wad g (2 * k + 2)), .int p0, .int p1] (.int (bI (rng p0 0 sz ∧ rng p1 0 (sz - p0.toInt)))) := by
  refine CR.start rfl (Nat.le_of_ble_eq_true rfl) ?_
  intro p e s m args below meth c A ls hc hr hlocks hw hl
  have hl : lv_has ls 3 [(0, .ref (wad g (2 * k + 2))), (1, .int p0), (2, .int p1)] := hl
  have hx := hc.1
  have hb := hc.2.1
  refine lv_iload_n hx hb d_RW_hasCells_0 rfl (lv_at hl 1 rfl) ?_
  refine u_if_lt (tgt := 30) (X := (p0).toInt) hc (rfl) d_RW_hasCells_1 (by decide) (fun c_1 => ?_) (fun c_1 => ?_)
  · refine lv_iconst (v := nI 0) hx hb d_RW_hasCells_30 (by decide) ?_
    exact R_z hc hr hlocks (by rw [bI_f (show ¬ (rng p0 0 sz ∧ rng p1 0 (sz - p0.toInt)) from by (unfold rng; omega))]; rfl) rfl d_RW_hasCells_31
  · refine lv_iload_n hx hb d_RW_hasCells_4 rfl (lv_at hl 1 rfl) ?_
    refine lv_aload_n hx hb d_RW_hasCells_5 rfl (lv_at hl 0 rfl) ?_
    refine gf_RW_19 hc hw (k := k) (hk) d_RW_hasCells_6 (v := .int (nI sz)) (congrArg Value.int (h2)) ?_
    refine u_icmp_gt (tgt := 30) (X := (p0).toInt) (Y := ((sz : Nat) : Int)) hc (rfl) (nI_tI (by omega)) d_RW_hasCells_9 (by decide) (fun c_2 => ?_) (fun c_2 => ?_)
    · refine lv_iconst (v := nI 0) hx hb d_RW_hasCells_30 (by decide) ?_
      exact R_z hc hr hlocks (by rw [bI_f (show ¬ (rng p0 0 sz ∧ rng p1 0 (sz - p0.toInt)) from by (unfold rng; omega))]; rfl) rfl d_RW_hasCells_31
    · obtain ⟨j0, rfl, j0_1, j0_2⟩ := rng_nat (x := p0) (a := 0) (b := sz) ⟨by omega, by omega⟩ (by decide)
      refine lv_iload_n hx hb d_RW_hasCells_12 rfl (lv_at hl 2 rfl) ?_
      refine u_if_lt (tgt := 30) (X := (p1).toInt) hc (rfl) d_RW_hasCells_13 (by decide) (fun c_3 => ?_) (fun c_3 => ?_)
      · refine lv_iconst (v := nI 0) hx hb d_RW_hasCells_30 (by decide) ?_
        exact R_z hc hr hlocks (by rw [bI_f (show ¬ (rng (nI j0) 0 sz ∧ rng p1 0 (sz - (nI j0).toInt)) from by (have e1 := nI_tI (j := j0) (by omega); unfold rng; omega))]; rfl) rfl d_RW_hasCells_31
      · refine lv_iload_n hx hb d_RW_hasCells_16 rfl (lv_at hl 2 rfl) ?_
        refine lv_aload_n hx hb d_RW_hasCells_17 rfl (lv_at hl 0 rfl) ?_
        refine gf_RW_19 hc hw (k := k) (hk) d_RW_hasCells_18 (v := .int (nI sz)) (congrArg Value.int (h2)) ?_
        refine lv_iload_n hx hb d_RW_hasCells_21 rfl (lv_at hl 1 rfl) ?_
        refine q_isub hc (by omega) d_RW_hasCells_22 ?_
        refine u_icmp_gt (tgt := 30) (X := (p1).toInt) (Y := ((sz - j0 : Nat) : Int)) hc (rfl) (nI_tI (by omega)) d_RW_hasCells_23 (by decide) (fun c_4 => ?_) (fun c_4 => ?_)
        · refine lv_iconst (v := nI 0) hx hb d_RW_hasCells_30 (by decide) ?_
          exact R_z hc hr hlocks (by rw [bI_f (show ¬ (rng (nI j0) 0 sz ∧ rng p1 0 (sz - (nI j0).toInt)) from by (have e1 := nI_tI (j := j0) (by omega); unfold rng; omega))]; rfl) rfl d_RW_hasCells_31
        · refine lv_iconst (v := nI 1) hx hb d_RW_hasCells_26 (by decide) ?_
          refine lv_goto (tgt := 31) hx hb d_RW_hasCells_27 (by decide) ?_
          exact R_z hc hr hlocks (by rw [bI_t (show rng (nI j0) 0 sz ∧ rng p1 0 (sz - (nI j0).toInt) from by (have e1 := nI_tI (j := j0) (by omega); unfold rng; omega))]; rfl) rfl d_RW_hasCells_31
set_option maxHeartbeats 4000000 in
theorem c_RW_cut (l : Launch) (D : va_G) (g : wG) (F : wF) (k : Nat) (hk : k < 4) (ln : Option Nat) (hln : ∀ x, ln = some x → x ≤ 2) (h1 : F (2 * k + 2) 1 = mI ln) (p0 : Int32) : CR l y_RW_cut b_RW_cut 2 (Option.some Jvm.ClassFile.FieldType.int) 0 D g F [.ref (wad g (2 * k + 2)), .int p0] (.int (cutI ln p0)) := by
  refine CR.start rfl (Nat.le_of_ble_eq_true rfl) ?_
  intro p e s m args below meth c A ls hc hr hlocks hw hl
  have hl : lv_has ls 2 [(0, .ref (wad g (2 * k + 2))), (1, .int p0)] := hl
  have hx := hc.1
  have hb := hc.2.1
  refine lv_aload_n hx hb d_RW_cut_0 rfl (lv_at hl 0 rfl) ?_
  refine gf_RW_15 hc hw (k := k) (hk) d_RW_cut_1 (v := .int (mI ln)) (congrArg Value.int (h1)) ?_
  by_cases c_1 : (mI ln).toInt = 0
  · refine lv_lookup (tgt := 32) hx hb d_RW_cut_4 (by decide) (by rw [c_1] <;> rfl) (by decide) ?_
    refine lv_iload_n hx hb d_RW_cut_32 rfl (lv_at hl 1 rfl) ?_
    refine lv_i2b (v := (p0).toInt8.toInt32) hx hb d_RW_cut_33 rfl ?_
    exact R_i hc hr hlocks (by congr 1; exact (cut_0 (Int32.toInt_inj.mp (by assumption)) hln).symm) d_RW_cut_34
  by_cases c_2 : (mI ln).toInt = 1
  · refine lv_lookup (tgt := 35) hx hb d_RW_cut_4 (by decide) (by rw [c_2] <;> rfl) (by decide) ?_
    refine lv_iload_n hx hb d_RW_cut_35 rfl (lv_at hl 1 rfl) ?_
    refine lv_i2s (v := (p0).toInt16.toInt32) hx hb d_RW_cut_36 rfl ?_
    exact R_i hc hr hlocks (by congr 1; exact (cut_1 (Int32.toInt_inj.mp (by assumption)) hln).symm) d_RW_cut_37
  refine lv_lookup (tgt := 38) hx hb d_RW_cut_4 (by decide) ((lv_osw (k := 0) (fun q => c_1 (by rw [q]; rfl)) (by decide)).trans ((lv_osw (k := 1) (fun q => c_2 (by rw [q]; rfl)) (by decide)).trans rfl)) rfl ?_
  refine lv_iload_n hx hb d_RW_cut_38 rfl (lv_at hl 1 rfl) ?_
  exact R_i hc hr hlocks (by congr 1; exact (cut_2 (fun q => c_1 (by rw [q]; rfl)) (fun q => c_2 (by rw [q]; rfl))).symm) d_RW_cut_39
