/-! printed by wip/gen/meths2.py: texts, sheets, persons -/
set_option maxHeartbeats 4000000 in
theorem c_TX_isSecondDigit (l : Launch) (D : va_G) (g : wG) (F : wF) (p0 p1 : Int32) : CR l y_TX_isSecondDigit b_TX_isSecondDigit 2 (Option.some Jvm.ClassFile.FieldType.boolean) 0 D g F [.int p0, .int p1] (.int (bI (sec p0 p1 = true))) := by
  refine CR.start rfl (Nat.le_of_ble_eq_true rfl) ?_
  intro p e s m args below meth c A ls hc hr hlocks hw hl
  have hl : lv_has ls 2 [(0, .int p0), (1, .int p1)] := hl
  have hx := hc.1
  have hb := hc.2.1
  refine lv_iload_n hx hb d_TX_isSecondDigit_0 rfl (lv_at hl 0 rfl) ?_
  refine lv_bipush (v := nI 52) hx hb d_TX_isSecondDigit_1 (by decide) ?_
  refine u_icmp_ne (tgt := 18) (X := (p0).toInt) (Y := 52) hc (rfl) (by decide) d_TX_isSecondDigit_3 (by decide) (fun c_1 => ?_) (fun c_1 => ?_)
  · refine lv_iload_n hx hb d_TX_isSecondDigit_18 rfl (lv_at hl 1 rfl) ?_
    refine lv_iload_n hx hb d_TX_isSecondDigit_19 rfl (lv_at hl 0 rfl) ?_
    refine lv_bipush (v := nI 48) hx hb d_TX_isSecondDigit_20 (by decide) ?_
    refine u_icmp_ne (tgt := 30) (X := (p0).toInt) (Y := 48) hc (rfl) (by decide) d_TX_isSecondDigit_22 (by decide) (fun c_2 => ?_) (fun c_2 => ?_)
    · refine lv_bipush (v := nI 48) hx hb d_TX_isSecondDigit_30 (by decide) ?_
      refine u_icmp_lt (tgt := 45) (X := (p1).toInt) (Y := 48) hc (rfl) (by decide) d_TX_isSecondDigit_32 (by decide) (fun c_3 => ?_) (fun c_3 => ?_)
      · refine lv_iconst (v := nI 0) hx hb d_TX_isSecondDigit_45 (by decide) ?_
        exact R_z hc hr hlocks (by rw [bI_f (show ¬ (sec p0 p1 = true) from by (unfold sec; simp_all <;> omega))]; rfl) rfl d_TX_isSecondDigit_46
      · refine lv_iload_n hx hb d_TX_isSecondDigit_35 rfl (lv_at hl 1 rfl) ?_
        refine lv_bipush (v := nI 57) hx hb d_TX_isSecondDigit_36 (by decide) ?_
        refine u_icmp_gt (tgt := 45) (X := (p1).toInt) (Y := 57) hc (rfl) (by decide) d_TX_isSecondDigit_38 (by decide) (fun c_4 => ?_) (fun c_4 => ?_)
        · refine lv_iconst (v := nI 0) hx hb d_TX_isSecondDigit_45 (by decide) ?_
          exact R_z hc hr hlocks (by rw [bI_f (show ¬ (sec p0 p1 = true) from by (unfold sec; simp_all <;> omega))]; rfl) rfl d_TX_isSecondDigit_46
        · refine lv_iconst (v := nI 1) hx hb d_TX_isSecondDigit_41 (by decide) ?_
          refine lv_goto (tgt := 46) hx hb d_TX_isSecondDigit_42 (by decide) ?_
          exact R_z hc hr hlocks (by rw [bI_t (show sec p0 p1 = true from by (unfold sec; simp_all <;> omega))]; rfl) rfl d_TX_isSecondDigit_46
    · refine lv_bipush (v := nI 49) hx hb d_TX_isSecondDigit_25 (by decide) ?_
      refine lv_goto (tgt := 32) hx hb d_TX_isSecondDigit_27 (by decide) ?_
      refine u_icmp_lt (tgt := 45) (X := (p1).toInt) (Y := 49) hc (rfl) (by decide) d_TX_isSecondDigit_32 (by decide) (fun c_5 => ?_) (fun c_5 => ?_)
      · refine lv_iconst (v := nI 0) hx hb d_TX_isSecondDigit_45 (by decide) ?_
        exact R_z hc hr hlocks (by rw [bI_f (show ¬ (sec p0 p1 = true) from by (unfold sec; simp_all <;> omega))]; rfl) rfl d_TX_isSecondDigit_46
      · refine lv_iload_n hx hb d_TX_isSecondDigit_35 rfl (lv_at hl 1 rfl) ?_
        refine lv_bipush (v := nI 57) hx hb d_TX_isSecondDigit_36 (by decide) ?_
        refine u_icmp_gt (tgt := 45) (X := (p1).toInt) (Y := 57) hc (rfl) (by decide) d_TX_isSecondDigit_38 (by decide) (fun c_6 => ?_) (fun c_6 => ?_)
        · refine lv_iconst (v := nI 0) hx hb d_TX_isSecondDigit_45 (by decide) ?_
          exact R_z hc hr hlocks (by rw [bI_f (show ¬ (sec p0 p1 = true) from by (unfold sec; simp_all <;> omega))]; rfl) rfl d_TX_isSecondDigit_46
        · refine lv_iconst (v := nI 1) hx hb d_TX_isSecondDigit_41 (by decide) ?_
          refine lv_goto (tgt := 46) hx hb d_TX_isSecondDigit_42 (by decide) ?_
          exact R_z hc hr hlocks (by rw [bI_t (show sec p0 p1 = true from by (unfold sec; simp_all <;> omega))]; rfl) rfl d_TX_isSecondDigit_46
  · refine lv_iload_n hx hb d_TX_isSecondDigit_6 rfl (lv_at hl 1 rfl) ?_
    refine lv_bipush (v := nI 48) hx hb d_TX_isSecondDigit_7 (by decide) ?_
    refine u_icmp_ne (tgt := 16) (X := (p1).toInt) (Y := 48) hc (rfl) (by decide) d_TX_isSecondDigit_9 (by decide) (fun c_7 => ?_) (fun c_7 => ?_)
    · refine lv_iconst (v := nI 0) hx hb d_TX_isSecondDigit_16 (by decide) ?_
      exact R_z hc hr hlocks (by rw [bI_f (show ¬ (sec p0 p1 = true) from by (unfold sec; simp_all <;> omega))]; rfl) rfl d_TX_isSecondDigit_17
    · refine lv_iconst (v := nI 1) hx hb d_TX_isSecondDigit_12 (by decide) ?_
      refine lv_goto (tgt := 17) hx hb d_TX_isSecondDigit_13 (by decide) ?_
      exact R_z hc hr hlocks (by rw [bI_t (show sec p0 p1 = true from by (unfold sec; simp_all <;> omega))]; rfl) rfl d_TX_isSecondDigit_17
set_option maxHeartbeats 4000000 in
theorem c_TX_goesOn (l : Launch) (D : va_G) (g : wG) (F : wF) (k : Nat) (hk : k < 4) (i a : Nat) (hia : i + a < 40) : CR l y_TX_goesOn b_TX_goesOn 4 (Option.some Jvm.ClassFile.FieldType.boolean) 1 D g F [.ref (wad g (2 * k + 3)), .int (nI i), .int (nI a)] (.int (bI (gos (fun j => F (2 * k + 3) (i + j)) a = true))) := by
  refine CR.start rfl (Nat.le_of_ble_eq_true rfl) ?_
  intro p e s m args below meth c A ls hc hr hlocks hw hl
  have hl : lv_has ls 4 [(0, .ref (wad g (2 * k + 3))), (1, .int (nI i)), (2, .int (nI a))] := hl
  have hx := hc.1
  have hb := hc.2.1
  refine lv_aload_n hx hb d_TX_goesOn_0 rfl (lv_at hl 0 rfl) ?_
  refine lv_iload_n hx hb d_TX_goesOn_1 rfl (lv_at hl 1 rfl) ?_
  refine lv_iload_n hx hb d_TX_goesOn_2 rfl (lv_at hl 2 rfl) ?_
  refine q_iadd hc d_TX_goesOn_3 ?_
  refine r_iald hc hw (h := 2 * k + 3) (n := 40) (i := i + a) (fun f => wt_cells g (hk) f) (by omega) (by omega) (by decide) d_TX_goesOn_4 (v := .int (F (2 * k + 3) (i + a))) (rfl) ?_
  refine lv_istore_n (lv' := [(3, .int (F (2 * k + 3) (i + a))), (0, .ref (wad g (2 * k + 3))), (1, .int (nI i)), (2, .int (nI a))]) hx hb d_TX_goesOn_5 rfl hl (by decide) rfl (fun ls hl => ?_)
  refine lv_iload_n hx hb d_TX_goesOn_6 rfl (lv_at hl 3 rfl) ?_
  refine q_if_ne (tgt := 22) hc (by omega) d_TX_goesOn_7 (by decide) (fun c_1 => ?_) (fun c_1 => ?_)
  · refine lv_iload_n hx hb d_TX_goesOn_22 rfl (lv_at hl 3 rfl) ?_
    refine kRS hc hw lk_TX_15 (As := [.int (nI a)]) (rest := []) (c_TX_personsOf l D g _ (a) (by omega)) ⟨Nat.le_of_ble_eq_true rfl, Nat.le_of_ble_eq_true rfl⟩ ⟨Nat.le_refl _, Nat.le_refl _⟩ rfl hl rfl (Nat.le_of_ble_eq_true rfl) d_TX_goesOn_23 ?_
    refine lv_bipush (v := nI 6) hx hb d_TX_goesOn_26 (by decide) ?_
    refine q_icmp_lt (tgt := 33) hc (by omega) (by omega) d_TX_goesOn_28 (by decide) (fun c_2 => ?_) (fun c_2 => ?_)
    · refine lv_iload_n hx hb d_TX_goesOn_33 rfl (lv_at hl 3 rfl) ?_
      refine lv_iconst (v := nI 1) hx hb d_TX_goesOn_34 (by decide) ?_
      refine q_isub hc (by omega) d_TX_goesOn_35 ?_
      refine lv_iconst (v := nI 3) hx hb d_TX_goesOn_36 (by decide) ?_
      refine q_irem hc (by omega) (by decide) (by decide) d_TX_goesOn_37 ?_
      by_cases c_3 : (a - 1) % 3 = 0
      · rw [c_3]
        refine lv_lookup (tgt := 64) hx hb d_TX_goesOn_38 (by decide) rfl (by decide) ?_
        refine lv_iload_n hx hb d_TX_goesOn_64 rfl (lv_at hl 0 rfl) ?_
        refine lv_bipush (v := nI 119) hx hb d_TX_goesOn_65 (by decide) ?_
        refine u_icmp_eq (tgt := 82) (X := (F (2 * k + 3) (i + a)).toInt) (Y := 119) hc (rfl) (by decide) d_TX_goesOn_67 (by decide) (fun c_4 => ?_) (fun c_4 => ?_)
        · refine lv_iconst (v := nI 1) hx hb d_TX_goesOn_82 (by decide) ?_
          refine lv_goto (tgt := 87) hx hb d_TX_goesOn_83 (by decide) ?_
          exact R_z hc hr hlocks (by rw [bI_t (show gos (fun j => F (2 * k + 3) (i + j)) a = true from by (simp only [gos]; simp_all <;> omega))]; rfl) rfl d_TX_goesOn_87
        · refine lv_iload_n hx hb d_TX_goesOn_70 rfl (lv_at hl 0 rfl) ?_
          refine lv_bipush (v := nI 109) hx hb d_TX_goesOn_71 (by decide) ?_
          refine u_icmp_eq (tgt := 82) (X := (F (2 * k + 3) (i + a)).toInt) (Y := 109) hc (rfl) (by decide) d_TX_goesOn_73 (by decide) (fun c_5 => ?_) (fun c_5 => ?_)
          · refine lv_iconst (v := nI 1) hx hb d_TX_goesOn_82 (by decide) ?_
            refine lv_goto (tgt := 87) hx hb d_TX_goesOn_83 (by decide) ?_
            exact R_z hc hr hlocks (by rw [bI_t (show gos (fun j => F (2 * k + 3) (i + j)) a = true from by (simp only [gos]; simp_all <;> omega))]; rfl) rfl d_TX_goesOn_87
          · refine lv_iload_n hx hb d_TX_goesOn_76 rfl (lv_at hl 0 rfl) ?_
            refine lv_bipush (v := nI 108) hx hb d_TX_goesOn_77 (by decide) ?_
            refine u_icmp_ne (tgt := 86) (X := (F (2 * k + 3) (i + a)).toInt) (Y := 108) hc (rfl) (by decide) d_TX_goesOn_79 (by decide) (fun c_6 => ?_) (fun c_6 => ?_)
            · refine lv_iconst (v := nI 0) hx hb d_TX_goesOn_86 (by decide) ?_
              exact R_z hc hr hlocks (by rw [bI_f (show ¬ (gos (fun j => F (2 * k + 3) (i + j)) a = true) from by (simp only [gos]; simp_all <;> omega))]; rfl) rfl d_TX_goesOn_87
            · refine lv_iconst (v := nI 1) hx hb d_TX_goesOn_82 (by decide) ?_
              refine lv_goto (tgt := 87) hx hb d_TX_goesOn_83 (by decide) ?_
              exact R_z hc hr hlocks (by rw [bI_t (show gos (fun j => F (2 * k + 3) (i + j)) a = true from by (simp only [gos]; simp_all <;> omega))]; rfl) rfl d_TX_goesOn_87
      have c_3n : ¬ nI ((a - 1) % 3) = nI 0 := fun q => c_3 ((nI_eq (by omega) (by decide)).mp q)
      by_cases c_7 : (a - 1) % 3 = 1
      · rw [c_7]
        refine lv_lookup (tgt := 88) hx hb d_TX_goesOn_38 (by decide) rfl (by decide) ?_
        refine lv_iload_n hx hb d_TX_goesOn_88 rfl (lv_at hl 0 rfl) ?_
        refine lv_bipush (v := nI 48) hx hb d_TX_goesOn_89 (by decide) ?_
        refine u_icmp_lt (tgt := 104) (X := (F (2 * k + 3) (i + a)).toInt) (Y := 48) hc (rfl) (by decide) d_TX_goesOn_91 (by decide) (fun c_8 => ?_) (fun c_8 => ?_)
        · refine lv_iconst (v := nI 0) hx hb d_TX_goesOn_104 (by decide) ?_
          exact R_z hc hr hlocks (by rw [bI_f (show ¬ (gos (fun j => F (2 * k + 3) (i + j)) a = true) from by (simp only [gos]; simp_all <;> omega))]; rfl) rfl d_TX_goesOn_105
        · refine lv_iload_n hx hb d_TX_goesOn_94 rfl (lv_at hl 0 rfl) ?_
          refine lv_bipush (v := nI 52) hx hb d_TX_goesOn_95 (by decide) ?_
          refine u_icmp_gt (tgt := 104) (X := (F (2 * k + 3) (i + a)).toInt) (Y := 52) hc (rfl) (by decide) d_TX_goesOn_97 (by decide) (fun c_9 => ?_) (fun c_9 => ?_)
          · refine lv_iconst (v := nI 0) hx hb d_TX_goesOn_104 (by decide) ?_
            exact R_z hc hr hlocks (by rw [bI_f (show ¬ (gos (fun j => F (2 * k + 3) (i + j)) a = true) from by (simp only [gos]; simp_all <;> omega))]; rfl) rfl d_TX_goesOn_105
          · refine lv_iconst (v := nI 1) hx hb d_TX_goesOn_100 (by decide) ?_
            refine lv_goto (tgt := 105) hx hb d_TX_goesOn_101 (by decide) ?_
            exact R_z hc hr hlocks (by rw [bI_t (show gos (fun j => F (2 * k + 3) (i + j)) a = true from by (simp only [gos]; simp_all <;> omega))]; rfl) rfl d_TX_goesOn_105
      have c_7n : ¬ nI ((a - 1) % 3) = nI 1 := fun q => c_7 ((nI_eq (by omega) (by decide)).mp q)
      refine lv_lookup (tgt := 106) hx hb d_TX_goesOn_38 (by decide) ((lv_osw c_3n (by decide)).trans ((lv_osw c_7n (by decide)).trans rfl)) rfl ?_
      refine lv_aload_n hx hb d_TX_goesOn_106 rfl (lv_at hl 1 rfl) ?_
      refine lv_iload_n hx hb d_TX_goesOn_107 rfl (lv_at hl 2 rfl) ?_
      refine lv_iload_n hx hb d_TX_goesOn_108 rfl (lv_at hl 3 rfl) ?_
      refine q_iadd hc d_TX_goesOn_109 ?_
      refine lv_iconst (v := nI 1) hx hb d_TX_goesOn_110 (by decide) ?_
      refine q_isub hc (by omega) d_TX_goesOn_111 ?_
      refine r_iald hc hw (h := 2 * k + 3) (n := 40) (i := (i + a) - 1) (fun f => wt_cells g (hk) f) (by omega) (by omega) (by decide) d_TX_goesOn_112 (v := .int (F (2 * k + 3) ((i + a) - 1))) (rfl) ?_
      refine lv_iload_n hx hb d_TX_goesOn_113 rfl (lv_at hl 0 rfl) ?_
      refine kRS hc hw lk_TX_22 (As := [.int (F (2 * k + 3) ((i + a) - 1)), .int (F (2 * k + 3) (i + a))]) (rest := []) (c_TX_isSecondDigit l D g _ (F (2 * k + 3) ((i + a) - 1)) (F (2 * k + 3) (i + a))) ⟨Nat.le_of_ble_eq_true rfl, Nat.le_of_ble_eq_true rfl⟩ ⟨Nat.le_refl _, Nat.le_refl _⟩ rfl hl rfl (Nat.le_of_ble_eq_true rfl) d_TX_goesOn_114 ?_
      exact R_z hc hr hlocks (by congr 2; rw [gos_2 (by omega) (by omega) (by assumption) (by assumption)]; show _ = (sec (F (2 * k + 3) (i + (a - 1))) _ = true); rw [show i + (a - 1) = i + a - 1 by omega]) (bI_nar _) d_TX_goesOn_117
    · refine lv_iconst (v := nI 0) hx hb d_TX_goesOn_31 (by decide) ?_
      exact R_z hc hr hlocks (by rw [bI_f (show ¬ (gos (fun j => F (2 * k + 3) (i + j)) a = true) from by (simp only [gos]; simp_all <;> omega))]; rfl) rfl d_TX_goesOn_32
  · refine lv_iload_n hx hb d_TX_goesOn_10 rfl (lv_at hl 0 rfl) ?_
    refine lv_bipush (v := nI 112) hx hb d_TX_goesOn_11 (by decide) ?_
    refine u_icmp_ne (tgt := 20) (X := (F (2 * k + 3) (i + a)).toInt) (Y := 112) hc (rfl) (by decide) d_TX_goesOn_13 (by decide) (fun c_10 => ?_) (fun c_10 => ?_)
    · refine lv_iconst (v := nI 0) hx hb d_TX_goesOn_20 (by decide) ?_
      exact R_z hc hr hlocks (by rw [bI_f (show ¬ (gos (fun j => F (2 * k + 3) (i + j)) a = true) from by (simp only [gos]; simp_all <;> omega))]; rfl) rfl d_TX_goesOn_21
    · refine lv_iconst (v := nI 1) hx hb d_TX_goesOn_16 (by decide) ?_
      refine lv_goto (tgt := 21) hx hb d_TX_goesOn_17 (by decide) ?_
      exact R_z hc hr hlocks (by rw [bI_t (show gos (fun j => F (2 * k + 3) (i + j)) a = true from by (simp only [gos]; simp_all <;> omega))]; rfl) rfl d_TX_goesOn_21
set_option maxHeartbeats 4000000 in
theorem c_TX_firstFault (l : Launch) (D : va_G) (g : wG) (F : wF) (k : Nat) (hk : k < 4) (i n : Nat) (hin : i + n ≤ 40) : CR l y_TX_firstFault b_TX_firstFault 4 (Option.some Jvm.ClassFile.FieldType.int) 2 D g F [.ref (wad g (2 * k + 3)), .int (nI i), .int (nI n)] (.int (oI (ff (fun j => F (2 * k + 3) (i + j)) n))) := by
  refine CR.start rfl (Nat.le_of_ble_eq_true rfl) ?_
  intro p e s m args below meth c A ls hc hr hlocks hw hl
  have hl : lv_has ls 4 [(0, .ref (wad g (2 * k + 3))), (1, .int (nI i)), (2, .int (nI n))] := hl
  have hx := hc.1
  have hb := hc.2.1
  refine lv_iconst (v := nI 0) hx hb d_TX_firstFault_0 (by decide) ?_
  refine lv_istore_n (lv' := [(3, .int (nI 0)), (0, .ref (wad g (2 * k + 3))), (1, .int (nI i)), (2, .int (nI n))]) hx hb d_TX_firstFault_1 rfl hl (by decide) rfl (fun ls hl => ?_)
  have loop_2 : ∀ (n_2 : Nat) (a : Nat)  (ls : Array Slot), (n - a) < n_2 → (a ≤ n) → (∀ b, b < a → gos (fun j => F (2 * k + 3) (i + j)) b = true) → Wd D g F A s.heap s.heap [] s → lv_has ls 4 [(0, .ref (wad g (2 * k + 3))), (1, .int (nI i)), (2, .int (nI n)), (3, .int (nI a))] → W p l e (rmc 2 0 0) s m args below meth c s.heap [] 0 0 (MQ below (k2_QcV (.int (oI (ff (fun j => F (2 * k + 3) (i + j)) n)))) args s 0 0 (fun _ => False)) (F0 m 2 ls []) := by
    intro n_2
    induction n_2 with
    | zero => intro a  ls hm; exact absurd hm (Nat.not_lt_zero _)
    | succ n_2 ih_2 =>
      intro a  ls hm_2 ha hall hw hl
      refine lv_iload_n hx hb d_TX_firstFault_2 rfl (lv_at hl 3 rfl) ?_
      refine lv_iload_n hx hb d_TX_firstFault_3 rfl (lv_at hl 2 rfl) ?_
      refine q_icmp_ge (tgt := 24) hc (by omega) (by omega) d_TX_firstFault_4 (by decide) (fun c_1 => ?_) (fun c_1 => ?_)
      · have hae : n = a := by omega
        subst hae
        refine lv_iload_n hx hb d_TX_firstFault_24 rfl (lv_at hl 2 rfl) ?_
        refine lv_iload_n hx hb d_TX_firstFault_25 rfl (lv_at hl 2 rfl) ?_
        refine kRS hc hw lk_TX_15 (As := [.int (nI n)]) (rest := [.int (nI n)]) (c_TX_personsOf l D g _ (n) (by omega)) ⟨Nat.le_of_ble_eq_true rfl, Nat.le_of_ble_eq_true rfl⟩ ⟨Nat.le_refl _, Nat.le_refl _⟩ rfl hl rfl (Nat.le_of_ble_eq_true rfl) d_TX_firstFault_26 ?_
        refine kRS hc hw lk_TX_19 (As := [.int (nI ((n - 1) / 3))]) (rest := [.int (nI n)]) (c_TX_letterOf l D g _ ((n - 1) / 3)) ⟨Nat.le_of_ble_eq_true rfl, Nat.le_of_ble_eq_true rfl⟩ ⟨Nat.le_refl _, Nat.le_refl _⟩ rfl hl rfl (Nat.le_of_ble_eq_true rfl) d_TX_firstFault_29 ?_
        refine q_icmp_ne (tgt := 39) hc (by omega) (by omega) d_TX_firstFault_32 (by decide) (fun c_2 => ?_) (fun c_2 => ?_)
        · refine lv_iconst (v := nI 0) hx hb d_TX_firstFault_39 (by decide) ?_
          refine lv_istore_n (lv' := [(3, .int (nI 0)), (0, .ref (wad g (2 * k + 3))), (1, .int (nI i)), (2, .int (nI n))]) hx hb d_TX_firstFault_40 rfl hl (by decide) rfl (fun ls hl => ?_)
          refine lv_iload_n hx hb d_TX_firstFault_41 rfl (lv_at hl 0 rfl) ?_
          refine q_if_eq (tgt := 58) hc (by omega) d_TX_firstFault_42 (by decide) (fun c_3 => ?_) (fun c_3 => ?_)
          · refine lv_iload_n hx hb d_TX_firstFault_58 rfl (lv_at hl 3 rfl) ?_
            exact R_i hc hr hlocks (by rw [ff_end hall, if_neg (by omega)]; rfl) d_TX_firstFault_59
          · exact absurd c_3 (by first | omega | decide)
        · refine lv_iconst (v := nI 1) hx hb d_TX_firstFault_35 (by decide) ?_
          refine lv_goto (tgt := 40) hx hb d_TX_firstFault_36 (by decide) ?_
          refine lv_istore_n (lv' := [(3, .int (nI 1)), (0, .ref (wad g (2 * k + 3))), (1, .int (nI i)), (2, .int (nI n))]) hx hb d_TX_firstFault_40 rfl hl (by decide) rfl (fun ls hl => ?_)
          refine lv_iload_n hx hb d_TX_firstFault_41 rfl (lv_at hl 0 rfl) ?_
          refine q_if_eq (tgt := 58) hc (by omega) d_TX_firstFault_42 (by decide) (fun c_4 => ?_) (fun c_4 => ?_)
          · exact absurd c_4 (by first | omega | decide)
          · refine lv_iload_n hx hb d_TX_firstFault_45 rfl (lv_at hl 3 rfl) ?_
            refine kRS hc hw lk_TX_15 (As := [.int (nI n)]) (rest := []) (c_TX_personsOf l D g _ (n) (by omega)) ⟨Nat.le_of_ble_eq_true rfl, Nat.le_of_ble_eq_true rfl⟩ ⟨Nat.le_refl _, Nat.le_refl _⟩ rfl hl rfl (Nat.le_of_ble_eq_true rfl) d_TX_firstFault_46 ?_
            refine lv_iconst (v := nI 2) hx hb d_TX_firstFault_49 (by decide) ?_
            refine q_icmp_lt (tgt := 58) hc (by omega) (by omega) d_TX_firstFault_50 (by decide) (fun c_5 => ?_) (fun c_5 => ?_)
            · refine lv_iload_n hx hb d_TX_firstFault_58 rfl (lv_at hl 3 rfl) ?_
              exact R_i hc hr hlocks (by rw [ff_end hall, if_neg (by omega)]; rfl) d_TX_firstFault_59
            · refine lv_bipush (v := (-9)) hx hb d_TX_firstFault_53 (by decide) ?_
              refine lv_goto (tgt := 59) hx hb d_TX_firstFault_55 (by decide) ?_
              exact R_i hc hr hlocks (by rw [ff_end (by assumption), if_pos (by omega)]; rfl) d_TX_firstFault_59
      · refine lv_aload_n hx hb d_TX_firstFault_7 rfl (lv_at hl 0 rfl) ?_
        refine lv_iload_n hx hb d_TX_firstFault_8 rfl (lv_at hl 1 rfl) ?_
        refine lv_iload_n hx hb d_TX_firstFault_9 rfl (lv_at hl 3 rfl) ?_
        refine kRS hc hw lk_TX_9 (As := [.ref (wad g (2 * k + 3)), .int (nI i), .int (nI a)]) (rest := []) (c_TX_goesOn l D g _ k hk (i) (a) (by omega)) ⟨Nat.le_of_ble_eq_true rfl, Nat.le_of_ble_eq_true rfl⟩ ⟨Nat.le_refl _, Nat.le_refl _⟩ rfl hl rfl (Nat.le_of_ble_eq_true rfl) d_TX_firstFault_10 ?_
        refine b_if_ne (tgt := 18) hc d_TX_firstFault_13 (by decide) (fun c_6 => ?_) (fun c_6 => ?_)
        · refine lv_iinc (v := nI (a + 1)) (lv' := [(3, .int (nI (a + 1))), (0, .ref (wad g (2 * k + 3))), (1, .int (nI i)), (2, .int (nI n))]) hx hb d_TX_firstFault_18 hl (k := 3) rfl (nI_inc1 _) (by decide) rfl (fun ls hl => ?_)
          refine lv_goto (tgt := 2) hx hb d_TX_firstFault_21 (by decide) ?_
          exact ih_2 (a + 1) _ (by omega) (by omega) (fun b hb => by rcases (show b < a ∨ b = a by omega) with q | q; exact hall b q; rw [q]; assumption) hw (lv_sub hl [1, 2, 3, 0] rfl)
        · refine lv_iload_n hx hb d_TX_firstFault_16 rfl (lv_at hl 3 rfl) ?_
          exact R_i hc hr hlocks (by rw [ff_at (by omega) hall (by assumption)]; rfl) d_TX_firstFault_17
  exact loop_2 _ 0 _ (Nat.lt_succ_self _) (by omega) (fun b hb => absurd hb (Nat.not_lt_zero b)) hw (lv_sub hl [1, 2, 3, 0] rfl)
set_option maxHeartbeats 4000000 in
theorem c_TX_liftAt (l : Launch) (D : va_G) (g : wG) (F : wF) (k : Nat) (hk : k < 4) (i t u : Nat) (hi : i + 1 < 40) (ht : F (2 * k + 3) i = nI (48 + t)) (hu : F (2 * k + 3) (i + 1) = nI (48 + u)) : CR l y_TX_liftAt b_TX_liftAt 2 (Option.some Jvm.ClassFile.FieldType.int) 0 D g F [.ref (wad g (2 * k + 3)), .int (nI i)] (.int (nI (10 * t + u))) := by
  refine CR.start rfl (Nat.le_of_ble_eq_true rfl) ?_
  intro p e s m args below meth c A ls hc hr hlocks hw hl
  have hl : lv_has ls 2 [(0, .ref (wad g (2 * k + 3))), (1, .int (nI i))] := hl
  have hx := hc.1
  have hb := hc.2.1
  refine lv_bipush (v := nI 10) hx hb d_TX_liftAt_0 (by decide) ?_
  refine lv_aload_n hx hb d_TX_liftAt_2 rfl (lv_at hl 0 rfl) ?_
  refine lv_iload_n hx hb d_TX_liftAt_3 rfl (lv_at hl 1 rfl) ?_
  refine r_iald hc hw (h := 2 * k + 3) (n := 40) (i := i) (fun f => wt_cells g (hk) f) (by omega) (by omega) (by decide) d_TX_liftAt_4 (v := .int (nI (48 + t))) (congrArg Value.int ht) ?_
  refine lv_bipush (v := nI 48) hx hb d_TX_liftAt_5 (by decide) ?_
  refine q_isub hc (by omega) d_TX_liftAt_7 ?_
  refine q_imul hc d_TX_liftAt_8 ?_
  refine lv_aload_n hx hb d_TX_liftAt_9 rfl (lv_at hl 0 rfl) ?_
  refine lv_iload_n hx hb d_TX_liftAt_10 rfl (lv_at hl 1 rfl) ?_
  refine lv_iconst (v := nI 1) hx hb d_TX_liftAt_11 (by decide) ?_
  refine q_iadd hc d_TX_liftAt_12 ?_
  refine r_iald hc hw (h := 2 * k + 3) (n := 40) (i := i + 1) (fun f => wt_cells g (hk) f) (by omega) (by omega) (by decide) d_TX_liftAt_13 (v := .int (nI (48 + u))) (congrArg Value.int hu) ?_
  refine q_iadd hc d_TX_liftAt_14 ?_
  refine lv_bipush (v := nI 48) hx hb d_TX_liftAt_15 (by decide) ?_
  refine q_isub hc (by omega) d_TX_liftAt_17 ?_
  exact R_i hc hr hlocks (by congr 2; omega) d_TX_liftAt_18
set_option maxHeartbeats 4000000 in
theorem c_RW_allWithin (l : Launch) (D : va_G) (g : wG) (F : wF) (k : Nat) (hk : k < 4) (i n : Nat) (hin : i + n ≤ 40) : CR l y_RW_allWithin b_RW_allWithin 6 (Option.some Jvm.ClassFile.FieldType.boolean) 1 D g F [.ref (wad g (2 * k + 2)), .int (nI i), .int (nI n), .int (nI 1), .int (nI 200)] (.int (bI (∀ j, j < n → rng (F (2 * k + 3) (i + j)) 1 200))) := by
  refine CR.start rfl (Nat.le_of_ble_eq_true rfl) ?_
  intro p e s m args below meth c A ls hc hr hlocks hw hl
  have hl : lv_has ls 6 [(0, .ref (wad g (2 * k + 2))), (1, .int (nI i)), (2, .int (nI n)), (3, .int (nI 1)), (4, .int (nI 200))] := hl
  have hx := hc.1
  have hb := hc.2.1
  refine lv_iload_n hx hb d_RW_allWithin_0 rfl (lv_at hl 1 rfl) ?_
  refine lv_istore (lv' := [(5, .int (nI i)), (0, .ref (wad g (2 * k + 2))), (1, .int (nI i)), (2, .int (nI n)), (3, .int (nI 1)), (4, .int (nI 200))]) hx hb d_RW_allWithin_1 hl (by decide) rfl (fun ls hl => ?_)
  have loop_3 : ∀ (n_3 : Nat) (a : Nat)  (ls : Array Slot), (n - a) < n_3 → (a ≤ n) → (∀ j, j < a → rng (F (2 * k + 3) (i + j)) 1 200) → Wd D g F A s.heap s.heap [] s → lv_has ls 6 [(0, .ref (wad g (2 * k + 2))), (1, .int (nI i)), (2, .int (nI n)), (3, .int (nI 1)), (4, .int (nI 200)), (5, .int (nI (i + a)))] → W p l e (rmc 1 0 0) s m args below meth c s.heap [] 0 0 (MQ below (k2_QcV (.int (bI (∀ j, j < n → rng (F (2 * k + 3) (i + j)) 1 200)))) args s 0 0 (fun _ => False)) (F0 m 3 ls []) := by
    intro n_3
    induction n_3 with
    | zero => intro a  ls hm; exact absurd hm (Nat.not_lt_zero _)
    | succ n_3 ih_3 =>
      intro a  ls hm_3 ha hall hw hl
      refine lv_iload hx hb d_RW_allWithin_3 (lv_at hl 5 rfl) ?_
      refine lv_iload_n hx hb d_RW_allWithin_5 rfl (lv_at hl 1 rfl) ?_
      refine lv_iload_n hx hb d_RW_allWithin_6 rfl (lv_at hl 2 rfl) ?_
      refine q_iadd hc d_RW_allWithin_7 ?_
      refine q_icmp_ge (tgt := 35) hc (by omega) (by omega) d_RW_allWithin_8 (by decide) (fun c_1 => ?_) (fun c_1 => ?_)
      · refine lv_iconst (v := nI 1) hx hb d_RW_allWithin_35 (by decide) ?_
        exact R_z hc hr hlocks (by rw [bI_t (fun j hj => hall j (by omega))]; rfl) rfl d_RW_allWithin_36
      · refine lv_aload_n hx hb d_RW_allWithin_11 rfl (lv_at hl 0 rfl) ?_
        refine gf_RW_9 hc hw (k := k) (hk) d_RW_allWithin_12 ?_
        refine lv_iload hx hb d_RW_allWithin_15 (lv_at hl 5 rfl) ?_
        refine r_iald hc hw (h := 2 * k + 3) (n := 40) (i := i + a) (fun f => wt_cells g (hk) f) (by omega) (by omega) (by decide) d_RW_allWithin_17 (v := .int (F (2 * k + 3) (i + a))) (rfl) ?_
        refine lv_iload_n hx hb d_RW_allWithin_18 rfl (lv_at hl 3 rfl) ?_
        refine lv_iload hx hb d_RW_allWithin_19 (lv_at hl 4 rfl) ?_
        refine kRN hc hw lk_RW_22 (As := [.int (F (2 * k + 3) (i + a)), .int (nI 1), .int (nI 200)]) (rest := []) (c_AP_isWithin l D g _ (F (2 * k + 3) (i + a)) (nI 1) (nI 200) 1 200 (by decide) (by decide)) ⟨Nat.le_of_ble_eq_true rfl, Nat.le_of_ble_eq_true rfl⟩ ⟨Nat.le_refl _, Nat.le_refl _⟩ rfl hl rfl (Nat.le_of_ble_eq_true rfl) d_RW_allWithin_21 ?_
        refine b_if_ne (tgt := 29) hc d_RW_allWithin_24 (by decide) (fun c_2 => ?_) (fun c_2 => ?_)
        · refine lv_iinc (v := nI ((i + a) + 1)) (lv' := [(5, .int (nI ((i + a) + 1))), (0, .ref (wad g (2 * k + 2))), (1, .int (nI i)), (2, .int (nI n)), (3, .int (nI 1)), (4, .int (nI 200))]) hx hb d_RW_allWithin_29 hl (k := 5) rfl (nI_inc1 _) (by decide) rfl (fun ls hl => ?_)
          refine lv_goto (tgt := 3) hx hb d_RW_allWithin_32 (by decide) ?_
          exact ih_3 (a + 1) _ (by omega) (by omega) (fun b hb => by rcases (show b < a ∨ b = a by omega) with q | q; exact hall b q; rw [q]; assumption) hw (lv_sub hl [1, 2, 3, 4, 5, 0] rfl)
        · refine lv_iconst (v := nI 0) hx hb d_RW_allWithin_27 (by decide) ?_
          exact R_z hc hr hlocks (by rw [bI_f (fun q => absurd (q a (by omega)) (by assumption))]; rfl) rfl d_RW_allWithin_28
  exact loop_3 _ 0 _ (Nat.lt_succ_self _) (by omega) (fun b hb => absurd hb (Nat.not_lt_zero b)) hw (lv_sub hl [1, 2, 3, 4, 5, 0] rfl)
set_option maxHeartbeats 4000000 in
theorem c_RW_faultOfCells (l : Launch) (D : va_G) (g : wG) (F : wF) (k : Nat) (hk : k < 4) (ln : Option Nat) (hln : ∀ x, ln = some x → x ≤ 2) (h1 : F (2 * k + 2) 1 = mI ln) (sz : Nat) (hsz : sz ≤ 40) (h2 : F (2 * k + 2) 2 = nI sz) (p0 p1 p2 : Int32) : CR l y_RW_faultOfCells b_RW_faultOfCells 4 (Option.some Jvm.ClassFile.FieldType.int) 1 D g F [.ref (wad g (2 * k + 2)), .int p0, .int p1, .int p2] (.int (nI (flt ln sz p0 p1 p2))) := by
  refine CR.start rfl (Nat.le_of_ble_eq_true rfl) ?_
  intro p e s m args below meth c A ls hc hr hlocks hw hl
  have hl : lv_has ls 4 [(0, .ref (wad g (2 * k + 2))), (1, .int p0), (2, .int p1), (3, .int p2)] := hl
  have hx := hc.1
  have hb := hc.2.1
  refine lv_aload_n hx hb d_RW_faultOfCells_0 rfl (lv_at hl 0 rfl) ?_
  refine kRV hc hw lk_RW_26 (As := []) (rest := []) (c_RW_isNothing l D g _ k hk ln hln h1) (rc_RW hw (hk)) ⟨Nat.le_of_ble_eq_true rfl, Nat.le_of_ble_eq_true rfl⟩ ⟨Nat.le_refl _, Nat.le_refl _⟩ rfl hl rfl (Nat.le_of_ble_eq_true rfl) d_RW_faultOfCells_1 ?_
  refine b_if_eq (tgt := 9) hc d_RW_faultOfCells_4 (by decide) (fun c_1 => ?_) (fun c_1 => ?_)
  · refine lv_aload_n hx hb d_RW_faultOfCells_9 rfl (lv_at hl 0 rfl) ?_
    refine gf_RW_15 hc hw (k := k) (hk) d_RW_faultOfCells_10 (v := .int (mI ln)) (congrArg Value.int (h1)) ?_
    refine lv_iload_n hx hb d_RW_faultOfCells_13 rfl (lv_at hl 1 rfl) ?_
    refine u_icmp_eq (tgt := 19) (X := (mI ln).toInt) (Y := (p0).toInt) hc (rfl) (rfl) d_RW_faultOfCells_14 (by decide) (fun c_2 => ?_) (fun c_2 => ?_)
    · refine lv_iload_n hx hb d_RW_faultOfCells_19 rfl (lv_at hl 3 rfl) ?_
      refine u_if_ge (tgt := 25) (X := (p2).toInt) hc (rfl) d_RW_faultOfCells_20 (by decide) (fun c_3 => ?_) (fun c_3 => ?_)
      · refine lv_aload_n hx hb d_RW_faultOfCells_25 rfl (lv_at hl 0 rfl) ?_
        refine lv_iload_n hx hb d_RW_faultOfCells_26 rfl (lv_at hl 2 rfl) ?_
        refine lv_iload_n hx hb d_RW_faultOfCells_27 rfl (lv_at hl 3 rfl) ?_
        refine kRV hc hw lk_RW_30 (As := [.int p1, .int p2]) (rest := []) (c_RW_hasCells l D g _ k hk sz hsz h2 (p1) (p2)) (rc_RW hw (hk)) ⟨Nat.le_of_ble_eq_true rfl, Nat.le_of_ble_eq_true rfl⟩ ⟨Nat.le_refl _, Nat.le_refl _⟩ rfl hl rfl (Nat.le_of_ble_eq_true rfl) d_RW_faultOfCells_28 ?_
        refine b_if_eq (tgt := 38) hc d_RW_faultOfCells_31 (by decide) (fun c_4 => ?_) (fun c_4 => ?_)
        · refine lv_iconst (v := nI 3) hx hb d_RW_faultOfCells_38 (by decide) ?_
          exact R_i hc hr hlocks (by congr 2; unfold flt; (repeat' split) <;> first | rfl | omega | contradiction | (exfalso; simp_all; done) | (exfalso; simp_all; omega)) d_RW_faultOfCells_39
        · refine lv_iconst (v := nI 0) hx hb d_RW_faultOfCells_34 (by decide) ?_
          refine lv_goto (tgt := 39) hx hb d_RW_faultOfCells_35 (by decide) ?_
          exact R_i hc hr hlocks (by congr 2; unfold flt; (repeat' split) <;> first | rfl | omega | contradiction | (exfalso; simp_all; done) | (exfalso; simp_all; omega)) d_RW_faultOfCells_39
      · refine lv_iconst (v := nI 4) hx hb d_RW_faultOfCells_23 (by decide) ?_
        exact R_i hc hr hlocks (by congr 2; unfold flt; (repeat' split) <;> first | rfl | omega | contradiction | (exfalso; simp_all; done) | (exfalso; simp_all; omega)) d_RW_faultOfCells_24
    · refine lv_iconst (v := nI 2) hx hb d_RW_faultOfCells_17 (by decide) ?_
      exact R_i hc hr hlocks (by congr 2; unfold flt; (repeat' split) <;> first | rfl | omega | contradiction | (exfalso; simp_all; done) | (exfalso; simp_all; omega)) d_RW_faultOfCells_18
  · refine lv_iconst (v := nI 1) hx hb d_RW_faultOfCells_7 (by decide) ?_
    exact R_i hc hr hlocks (by congr 2; unfold flt; (repeat' split) <;> first | rfl | omega | contradiction | (exfalso; simp_all; done) | (exfalso; simp_all; omega)) d_RW_faultOfCells_8
set_option maxHeartbeats 4000000 in
theorem c_AP_personAt_y (l : Launch) (D : va_G) (g : wG) (F : wF) (pc : Nat) (h7 : F 0 7 = nI pc) (hpc : pc ≤ wm g) (hm : wm g ≤ 6) (j : Nat) (hj : j < pc) : CR l y_AP_personAt b_AP_personAt 2 (Option.some (Jvm.ClassFile.FieldType.object "AnswerPost$Writer")) 0 D g F [.ref (wad g 0), .int (nI j)] (.ref (wad g (79 + j))) := by
  refine CR.start rfl (Nat.le_of_ble_eq_true rfl) ?_
  intro p e s m args below meth c A ls hc hr hlocks hw hl
  have hl : lv_has ls 2 [(0, .ref (wad g 0)), (1, .int (nI j))] := hl
  have hx := hc.1
  have hb := hc.2.1
  refine lv_iload_n hx hb d_AP_personAt_0 rfl (lv_at hl 1 rfl) ?_
  refine q_if_lt (tgt := 21) hc (by omega) d_AP_personAt_1 (by decide) ?_
  refine lv_iload_n hx hb d_AP_personAt_4 rfl (lv_at hl 1 rfl) ?_
  refine lv_aload_n hx hb d_AP_personAt_5 rfl (lv_at hl 0 rfl) ?_
  refine gf_AP_93 hc hw d_AP_personAt_6 (v := .int (nI pc)) (congrArg Value.int (h7)) ?_
  refine q_icmp_ge (tgt := 21) hc (by omega) (by omega) d_AP_personAt_9 (by decide) (fun c_2 => ?_) (fun c_2 => ?_)
  · exact absurd c_2 (by first | omega | decide)
  · refine lv_aload_n hx hb d_AP_personAt_12 rfl (lv_at hl 0 rfl) ?_
    refine gf_AP_20 hc hw d_AP_personAt_13 ?_
    refine lv_iload_n hx hb d_AP_personAt_16 rfl (lv_at hl 1 rfl) ?_
    refine r_aldO hc hw (h := 10) (n := 6) (i := j) (t0 := 2) rfl (by omega) rfl (by omega) (by decide) d_AP_personAt_17 (v := .ref (wad g (79 + j))) (show va_rf (wrow g 79 (wm g) j) = _ from by rw [wrow_at (by omega)]; rfl) ?_
    refine lv_goto (tgt := 22) hx hb d_AP_personAt_18 (by decide) ?_
    exact R_a hc hr (Or.inl ⟨_, rfl⟩) hlocks (rfl) (Or.inr ⟨_, rfl⟩) d_AP_personAt_22
set_option maxHeartbeats 4000000 in
theorem c_AP_personAt_n (l : Launch) (D : va_G) (g : wG) (F : wF) (pc : Nat) (h7 : F 0 7 = nI pc) (hpc : pc ≤ 6) (p0 : Int32) (hp : ¬ inN p0 pc) : CR l y_AP_personAt b_AP_personAt 2 (Option.some (Jvm.ClassFile.FieldType.object "AnswerPost$Writer")) 0 D g F [.ref (wad g 0), .int p0] (.null) := by
  refine CR.start rfl (Nat.le_of_ble_eq_true rfl) ?_
  intro p e s m args below meth c A ls hc hr hlocks hw hl
  have hl : lv_has ls 2 [(0, .ref (wad g 0)), (1, .int p0)] := hl
  have hx := hc.1
  have hb := hc.2.1
  refine lv_iload_n hx hb d_AP_personAt_0 rfl (lv_at hl 1 rfl) ?_
  refine u_if_lt (tgt := 21) (X := (p0).toInt) hc (rfl) d_AP_personAt_1 (by decide) (fun c_1 => ?_) (fun c_1 => ?_)
  · refine lv_null hx hb d_AP_personAt_21 ?_
    exact R_a hc hr (Or.inl ⟨_, rfl⟩) hlocks (rfl) (Or.inl rfl) d_AP_personAt_22
  · refine lv_iload_n hx hb d_AP_personAt_4 rfl (lv_at hl 1 rfl) ?_
    refine lv_aload_n hx hb d_AP_personAt_5 rfl (lv_at hl 0 rfl) ?_
    refine gf_AP_93 hc hw d_AP_personAt_6 (v := .int (nI pc)) (congrArg Value.int (h7)) ?_
    refine u_icmp_ge (tgt := 21) (X := (p0).toInt) (Y := ((pc : Nat) : Int)) hc (rfl) (nI_tI (by omega)) d_AP_personAt_9 (by decide) (fun c_2 => ?_) (fun c_2 => ?_)
    · refine lv_null hx hb d_AP_personAt_21 ?_
      exact R_a hc hr (Or.inl ⟨_, rfl⟩) hlocks (rfl) (Or.inl rfl) d_AP_personAt_22
    · exact absurd (show inN p0 pc from ⟨by omega, by omega⟩) hp
set_option maxHeartbeats 4000000 in
theorem c_AP_sheetAt_y (l : Launch) (D : va_G) (g : wG) (F : wF) (j : Nat) (hj : j < 4) : CR l y_AP_sheetAt b_AP_sheetAt 2 (Option.some (Jvm.ClassFile.FieldType.object "AnswerPost$Row")) 1 D g F [.ref (wad g 0), .int (nI j)] (.ref (wad g (2 * j + 2))) := by
  refine CR.start rfl (Nat.le_of_ble_eq_true rfl) ?_
  intro p e s m args below meth c A ls hc hr hlocks hw hl
  have hl : lv_has ls 2 [(0, .ref (wad g 0)), (1, .int (nI j))] := hl
  have hx := hc.1
  have hb := hc.2.1
  refine lv_iload_n hx hb d_AP_sheetAt_0 rfl (lv_at hl 1 rfl) ?_
  refine lv_iconst (v := nI 0) hx hb d_AP_sheetAt_1 (by decide) ?_
  refine lv_iconst (v := nI 3) hx hb d_AP_sheetAt_2 (by decide) ?_
  refine kRS hc hw lk_AP_67 (As := [.int (nI j), .int (nI 0), .int (nI 3)]) (rest := []) (c_AP_isWithin l D g _ (nI j) (nI 0) (nI 3) 0 3 (by decide) (by decide)) ⟨Nat.le_of_ble_eq_true rfl, Nat.le_of_ble_eq_true rfl⟩ ⟨Nat.le_refl _, Nat.le_refl _⟩ rfl hl rfl (Nat.le_of_ble_eq_true rfl) d_AP_sheetAt_3 ?_
  refine b_if_eq (tgt := 18) hc d_AP_sheetAt_6 (by decide) (fun c_1 => ?_) (fun c_1 => ?_)
  · exact (c_1 ((rng_nI (by omega)).mpr ⟨by omega, by omega⟩)).elim
  · refine lv_aload_n hx hb d_AP_sheetAt_9 rfl (lv_at hl 0 rfl) ?_
    refine gf_AP_13 hc hw d_AP_sheetAt_10 ?_
    refine lv_iload_n hx hb d_AP_sheetAt_13 rfl (lv_at hl 1 rfl) ?_
    refine r_aldO hc hw (h := 1) (n := 4) (i := j) (t0 := 1) rfl (by omega) rfl (by omega) (by decide) d_AP_sheetAt_14 (v := .ref (wad g (2 * j + 2))) (show va_rf (if j < 4 then some (wad g (2 * j + 2)) else none) = _ from by rw [if_pos (by omega)]; rfl) ?_
    refine lv_goto (tgt := 19) hx hb d_AP_sheetAt_15 (by decide) ?_
    exact R_a hc hr (Or.inl ⟨_, rfl⟩) hlocks (rfl) (Or.inr ⟨_, rfl⟩) d_AP_sheetAt_19
set_option maxHeartbeats 4000000 in
theorem c_AP_sheetAt_n (l : Launch) (D : va_G) (g : wG) (F : wF) (p0 : Int32) (hp : ¬ rng p0 0 3) : CR l y_AP_sheetAt b_AP_sheetAt 2 (Option.some (Jvm.ClassFile.FieldType.object "AnswerPost$Row")) 1 D g F [.ref (wad g 0), .int p0] (.null) := by
  refine CR.start rfl (Nat.le_of_ble_eq_true rfl) ?_
  intro p e s m args below meth c A ls hc hr hlocks hw hl
  have hl : lv_has ls 2 [(0, .ref (wad g 0)), (1, .int p0)] := hl
  have hx := hc.1
  have hb := hc.2.1
  refine lv_iload_n hx hb d_AP_sheetAt_0 rfl (lv_at hl 1 rfl) ?_
  refine lv_iconst (v := nI 0) hx hb d_AP_sheetAt_1 (by decide) ?_
  refine lv_iconst (v := nI 3) hx hb d_AP_sheetAt_2 (by decide) ?_
  refine kRS hc hw lk_AP_67 (As := [.int p0, .int (nI 0), .int (nI 3)]) (rest := []) (c_AP_isWithin l D g _ (p0) (nI 0) (nI 3) 0 3 (by decide) (by decide)) ⟨Nat.le_of_ble_eq_true rfl, Nat.le_of_ble_eq_true rfl⟩ ⟨Nat.le_refl _, Nat.le_refl _⟩ rfl hl rfl (Nat.le_of_ble_eq_true rfl) d_AP_sheetAt_3 ?_
  refine b_if_eq (tgt := 18) hc d_AP_sheetAt_6 (by decide) (fun c_1 => ?_) (fun c_1 => ?_)
  · refine lv_null hx hb d_AP_sheetAt_18 ?_
    exact R_a hc hr (Or.inl ⟨_, rfl⟩) hlocks (rfl) (Or.inl rfl) d_AP_sheetAt_19
  · exact absurd c_1 hp
set_option maxHeartbeats 4000000 in
theorem c_AP_faulted (l : Launch) (D : va_G) (g : wG) (F : wF) (k : Nat) : CW l y_AP_faulted b_AP_faulted 2 (Option.some Jvm.ClassFile.FieldType.int) 0 0 0 D g F [.ref (wad g 0), .int (nI k)] (fun v g2 u => v = some (.int (fI k)) ∧ g = g2 ∧ u = u2 F 0 9 (nI k)) := by
  refine CW.start rfl (Nat.le_of_ble_eq_true rfl) ?_
  intro p e s m args below meth c A ls hc hr hlocks hw hl
  have hl : lv_has ls 2 [(0, .ref (wad g 0)), (1, .int (nI k))] := hl
  have hx := hc.1
  have hb := hc.2.1
  refine lv_aload_n hx hb d_AP_faulted_0 rfl (lv_at hl 0 rfl) ?_
  refine lv_iload_n hx hb d_AP_faulted_1 rfl (lv_at hl 1 rfl) ?_
  refine pf_AP_59 hc hw d_AP_faulted_2 (fun H locs hw => ?_)
  refine lv_bipush (v := (-10)) hx hb d_AP_faulted_5 (by decide) ?_
  refine lv_iload_n hx hb d_AP_faulted_7 rfl (lv_at hl 1 rfl) ?_
  refine lv_isub hx hb d_AP_faulted_8 ?_
  exact W_i hc hw hr hlocks (⟨rfl, rfl, rfl⟩) d_AP_faulted_9
set_option maxHeartbeats 4000000 in
theorem c_MO_fails (l : Launch) (D : va_G) (g : wG) (F : wF) (k : Nat) : CW l y_MO_fails b_MO_fails 2 (Option.some Jvm.ClassFile.FieldType.int) 0 0 0 D g F [.ref (wad g 58), .int (nI k)] (fun v g2 u => v = some (.int (fI k)) ∧ g = g2 ∧ u = u2 F 58 0 (nI k)) := by
  refine CW.start rfl (Nat.le_of_ble_eq_true rfl) ?_
  intro p e s m args below meth c A ls hc hr hlocks hw hl
  have hl : lv_has ls 2 [(0, .ref (wad g 58)), (1, .int (nI k))] := hl
  have hx := hc.1
  have hb := hc.2.1
  refine lv_aload_n hx hb d_MO_fails_0 rfl (lv_at hl 0 rfl) ?_
  refine lv_iload_n hx hb d_MO_fails_1 rfl (lv_at hl 1 rfl) ?_
  refine pf_MO_70 hc hw d_MO_fails_2 (fun H locs hw => ?_)
  refine lv_bipush (v := (-10)) hx hb d_MO_fails_5 (by decide) ?_
  refine lv_iload_n hx hb d_MO_fails_7 rfl (lv_at hl 1 rfl) ?_
  refine lv_isub hx hb d_MO_fails_8 ?_
  exact W_i hc hw hr hlocks (⟨rfl, rfl, rfl⟩) d_MO_fails_9
set_option maxHeartbeats 4000000 in
theorem c_MO_lost (l : Launch) (D : va_G) (g : wG) (F : wF) (k : Nat) : CW l y_MO_lost b_MO_lost 2 (Option.some Jvm.ClassFile.FieldType.long) 0 0 0 D g F [.ref (wad g 58), .int (nI k)] (fun v g2 u => v = some (.long (-9223372036854775808)) ∧ g = g2 ∧ u = u2 F 58 0 (nI k)) := by
  refine CW.start rfl (Nat.le_of_ble_eq_true rfl) ?_
  intro p e s m args below meth c A ls hc hr hlocks hw hl
  have hl : lv_has ls 2 [(0, .ref (wad g 58)), (1, .int (nI k))] := hl
  have hx := hc.1
  have hb := hc.2.1
  refine lv_aload_n hx hb d_MO_lost_0 rfl (lv_at hl 0 rfl) ?_
  refine lv_iload_n hx hb d_MO_lost_1 rfl (lv_at hl 1 rfl) ?_
  refine pf_MO_70 hc hw d_MO_lost_2 (fun H locs hw => ?_)
  refine lv_ldc2 hx hb hc.2.2.2.1 (hc.2.2.2.2 _ g_887) d_MO_lost_5 ?_
  exact W_l hc hw hr hlocks (⟨rfl, rfl, rfl⟩) d_MO_lost_8
set_option maxHeartbeats 4000000 in
theorem c_MO_begins (l : Launch) (D : va_G) (g : wG) (F : wF) (p0 tr : Int32) (h1 : F 58 1 = tr) : CW l y_MO_begins b_MO_begins 2 (Option.none) 0 0 0 D g F [.ref (wad g 58), .int p0] (fun v g2 u => v = none ∧ g = g2 ∧ u = u2 F 58 1 (31 * tr + p0)) := by
  refine CW.start rfl (Nat.le_of_ble_eq_true rfl) ?_
  intro p e s m args below meth c A ls hc hr hlocks hw hl
  have hl : lv_has ls 2 [(0, .ref (wad g 58)), (1, .int p0)] := hl
  have hx := hc.1
  have hb := hc.2.1
  refine lv_aload_n hx hb d_MO_begins_0 rfl (lv_at hl 0 rfl) ?_
  refine lv_bipush (v := nI 31) hx hb d_MO_begins_1 (by decide) ?_
  refine lv_aload_n hx hb d_MO_begins_3 rfl (lv_at hl 0 rfl) ?_
  refine gf_MO_190 hc hw d_MO_begins_4 (v := .int tr) (congrArg Value.int (h1)) ?_
  refine lv_imul hx hb d_MO_begins_7 ?_
  refine lv_iload_n hx hb d_MO_begins_8 rfl (lv_at hl 1 rfl) ?_
  refine lv_iadd hx hb d_MO_begins_9 ?_
  refine pf_MO_190 hc hw d_MO_begins_10 (fun H locs hw => ?_)
  exact W_v hc hw hr hlocks (⟨rfl, rfl, rfl⟩) d_MO_begins_13
set_option maxHeartbeats 4000000 in
theorem c_TR_leave (l : Launch) (D : va_G) (g : wG) (F : wF) (p0 tr : Int32) (h1 : F 57 0 = tr) : CW l y_TR_leave b_TR_leave 2 (Option.none) 0 0 0 D g F [.ref (wad g 57), .int p0] (fun v g2 u => v = none ∧ g = g2 ∧ u = u2 F 57 0 (31 * tr + p0)) := by
  refine CW.start rfl (Nat.le_of_ble_eq_true rfl) ?_
  intro p e s m args below meth c A ls hc hr hlocks hw hl
  have hl : lv_has ls 2 [(0, .ref (wad g 57)), (1, .int p0)] := hl
  have hx := hc.1
  have hb := hc.2.1
  refine lv_aload_n hx hb d_TR_leave_0 rfl (lv_at hl 0 rfl) ?_
  refine lv_bipush (v := nI 31) hx hb d_TR_leave_1 (by decide) ?_
  refine lv_aload_n hx hb d_TR_leave_3 rfl (lv_at hl 0 rfl) ?_
  refine gf_TR_7 hc hw d_TR_leave_4 (v := .int tr) (congrArg Value.int (h1)) ?_
  refine lv_imul hx hb d_TR_leave_7 ?_
  refine lv_iload_n hx hb d_TR_leave_8 rfl (lv_at hl 1 rfl) ?_
  refine lv_iadd hx hb d_TR_leave_9 ?_
  refine pf_TR_7 hc hw d_TR_leave_10 (fun H locs hw => ?_)
  exact W_v hc hw hr hlocks (⟨rfl, rfl, rfl⟩) d_TR_leave_13
set_option maxHeartbeats 4000000 in
theorem c_MO_against (l : Launch) (D : va_G) (g : wG) (F : wF) (k : Nat) (hk : k < 4) (ln : Option Nat) (hln : ∀ x, ln = some x → x ≤ 2) (sz : Nat) (hsz : sz ≤ 40) (h59 : F 59 k = oI ln) (h60 : F 60 k = nI sz) (p0 p1 p2 : Int32) : CR l y_MO_against b_MO_against 5 (Option.some Jvm.ClassFile.FieldType.int) 0 D g F [.ref (wad g 58), .int (nI k), .int p0, .int p1, .int p2] (.int (nI (flt ln sz p0 p1 p2))) := by
  refine CR.start rfl (Nat.le_of_ble_eq_true rfl) ?_
  intro p e s m args below meth c A ls hc hr hlocks hw hl
  have hl : lv_has ls 5 [(0, .ref (wad g 58)), (1, .int (nI k)), (2, .int p0), (3, .int p1), (4, .int p2)] := hl
  have hx := hc.1
  have hb := hc.2.1
  have e9 := (oI_toI (n := 3) (by decide) (fun x h => Nat.lt_succ_of_le (hln x h))).1
  have em : ∀ z : Int, ¬ ln = none → ((mI ln).toInt = z ↔ (oI ln).toInt = z) := fun z h => by cases ln with | none => exact absurd rfl h | some x => exact Iff.rfl
  refine lv_aload_n hx hb d_MO_against_0 rfl (lv_at hl 0 rfl) ?_
  refine gf_MO_9 hc hw d_MO_against_1 ?_
  refine lv_iload_n hx hb d_MO_against_4 rfl (lv_at hl 1 rfl) ?_
  refine r_iald hc hw (h := 59) (n := 4) (i := k) (fun _ => rfl) (by omega) (by omega) (by decide) d_MO_against_5 (v := .int (oI ln)) (congrArg Value.int (h59)) ?_
  refine lv_bipush (v := (-9)) hx hb d_MO_against_6 (by decide) ?_
  refine u_icmp_eq (tgt := 23) (X := (oI ln).toInt) (Y := (-9)) hc (rfl) (by decide) d_MO_against_8 (by decide) (fun c_1 => ?_) (fun c_1 => ?_)
  · refine lv_aload_n hx hb d_MO_against_23 rfl (lv_at hl 0 rfl) ?_
    refine gf_MO_9 hc hw d_MO_against_24 ?_
    refine lv_iload_n hx hb d_MO_against_27 rfl (lv_at hl 1 rfl) ?_
    refine r_iald hc hw (h := 59) (n := 4) (i := k) (fun _ => rfl) (by omega) (by omega) (by decide) d_MO_against_28 (v := .int (oI ln)) (congrArg Value.int (h59)) ?_
    refine lv_bipush (v := (-9)) hx hb d_MO_against_29 (by decide) ?_
    refine u_icmp_ne (tgt := 36) (X := (oI ln).toInt) (Y := (-9)) hc (rfl) (by decide) d_MO_against_31 (by decide) (fun c_2 => ?_) (fun c_2 => ?_)
    · refine lv_iload hx hb d_MO_against_36 (lv_at hl 4 rfl) ?_
      refine u_if_ge (tgt := 43) (X := (p2).toInt) hc (rfl) d_MO_against_38 (by decide) (fun c_3 => ?_) (fun c_3 => ?_)
      · refine lv_iload_n hx hb d_MO_against_43 rfl (lv_at hl 3 rfl) ?_
        refine u_if_lt (tgt := 70) (X := (p1).toInt) hc (rfl) d_MO_against_44 (by decide) (fun c_4 => ?_) (fun c_4 => ?_)
        · refine lv_iconst (v := nI 3) hx hb d_MO_against_70 (by decide) ?_
          refine lv_goto (tgt := 75) hx hb d_MO_against_71 (by decide) ?_
          exact R_i hc hr hlocks (by congr 2; unfold flt; (repeat' split) <;> first | rfl | omega | contradiction | (exfalso; simp_all; done) | (exfalso; simp_all; omega)) d_MO_against_75
        · refine lv_iload_n hx hb d_MO_against_47 rfl (lv_at hl 3 rfl) ?_
          refine lv_aload_n hx hb d_MO_against_48 rfl (lv_at hl 0 rfl) ?_
          refine gf_MO_13 hc hw d_MO_against_49 ?_
          refine lv_iload_n hx hb d_MO_against_52 rfl (lv_at hl 1 rfl) ?_
          refine r_iald hc hw (h := 60) (n := 4) (i := k) (fun _ => rfl) (by omega) (by omega) (by decide) d_MO_against_53 (v := .int (nI sz)) (congrArg Value.int (h60)) ?_
          refine u_icmp_gt (tgt := 70) (X := (p1).toInt) (Y := ((sz : Nat) : Int)) hc (rfl) (nI_tI (by omega)) d_MO_against_54 (by decide) (fun c_5 => ?_) (fun c_5 => ?_)
          · refine lv_iconst (v := nI 3) hx hb d_MO_against_70 (by decide) ?_
            refine lv_goto (tgt := 75) hx hb d_MO_against_71 (by decide) ?_
            exact R_i hc hr hlocks (by congr 2; unfold flt; (repeat' split) <;> first | rfl | omega | contradiction | (exfalso; simp_all; done) | (exfalso; simp_all; omega)) d_MO_against_75
          · obtain ⟨j1, rfl, j1_1, j1_2⟩ := rng_nat (x := p1) (a := 0) (b := sz) ⟨by omega, by omega⟩ (by decide)
            have ej := nI_tI (j := j1) (by omega)
            refine lv_iload hx hb d_MO_against_57 (lv_at hl 4 rfl) ?_
            refine lv_aload_n hx hb d_MO_against_59 rfl (lv_at hl 0 rfl) ?_
            refine gf_MO_13 hc hw d_MO_against_60 ?_
            refine lv_iload_n hx hb d_MO_against_63 rfl (lv_at hl 1 rfl) ?_
            refine r_iald hc hw (h := 60) (n := 4) (i := k) (fun _ => rfl) (by omega) (by omega) (by decide) d_MO_against_64 (v := .int (nI sz)) (congrArg Value.int (h60)) ?_
            refine lv_iload_n hx hb d_MO_against_65 rfl (lv_at hl 3 rfl) ?_
            refine q_isub hc (by omega) d_MO_against_66 ?_
            refine u_icmp_le (tgt := 74) (X := (p2).toInt) (Y := ((sz - j1 : Nat) : Int)) hc (rfl) (nI_tI (by omega)) d_MO_against_67 (by decide) (fun c_6 => ?_) (fun c_6 => ?_)
            · refine lv_iconst (v := nI 0) hx hb d_MO_against_74 (by decide) ?_
              exact R_i hc hr hlocks (by congr 2; unfold flt; (repeat' split) <;> first | rfl | omega | contradiction | (exfalso; simp_all; done) | (exfalso; simp_all; omega)) d_MO_against_75
            · refine lv_iconst (v := nI 3) hx hb d_MO_against_70 (by decide) ?_
              refine lv_goto (tgt := 75) hx hb d_MO_against_71 (by decide) ?_
              exact R_i hc hr hlocks (by congr 2; unfold flt; (repeat' split) <;> first | rfl | omega | contradiction | (exfalso; simp_all; done) | (exfalso; simp_all; omega)) d_MO_against_75
      · refine lv_iconst (v := nI 4) hx hb d_MO_against_41 (by decide) ?_
        exact R_i hc hr hlocks (by congr 2; unfold flt; (repeat' split) <;> first | rfl | omega | contradiction | (exfalso; simp_all; done) | (exfalso; simp_all; omega)) d_MO_against_42
    · refine lv_iconst (v := nI 1) hx hb d_MO_against_34 (by decide) ?_
      exact R_i hc hr hlocks (by congr 2; unfold flt; (repeat' split) <;> first | rfl | omega | contradiction | (exfalso; simp_all; done) | (exfalso; simp_all; omega)) d_MO_against_35
  · refine lv_aload_n hx hb d_MO_against_11 rfl (lv_at hl 0 rfl) ?_
    refine gf_MO_9 hc hw d_MO_against_12 ?_
    refine lv_iload_n hx hb d_MO_against_15 rfl (lv_at hl 1 rfl) ?_
    refine r_iald hc hw (h := 59) (n := 4) (i := k) (fun _ => rfl) (by omega) (by omega) (by decide) d_MO_against_16 (v := .int (oI ln)) (congrArg Value.int (h59)) ?_
    refine lv_iload_n hx hb d_MO_against_17 rfl (lv_at hl 2 rfl) ?_
    refine u_icmp_eq (tgt := 23) (X := (oI ln).toInt) (Y := (p0).toInt) hc (rfl) (rfl) d_MO_against_18 (by decide) (fun c_7 => ?_) (fun c_7 => ?_)
    · refine lv_aload_n hx hb d_MO_against_23 rfl (lv_at hl 0 rfl) ?_
      refine gf_MO_9 hc hw d_MO_against_24 ?_
      refine lv_iload_n hx hb d_MO_against_27 rfl (lv_at hl 1 rfl) ?_
      refine r_iald hc hw (h := 59) (n := 4) (i := k) (fun _ => rfl) (by omega) (by omega) (by decide) d_MO_against_28 (v := .int (oI ln)) (congrArg Value.int (h59)) ?_
      refine lv_bipush (v := (-9)) hx hb d_MO_against_29 (by decide) ?_
      refine u_icmp_ne (tgt := 36) (X := (oI ln).toInt) (Y := (-9)) hc (rfl) (by decide) d_MO_against_31 (by decide) (fun c_8 => ?_) (fun c_8 => ?_)
      · refine lv_iload hx hb d_MO_against_36 (lv_at hl 4 rfl) ?_
        refine u_if_ge (tgt := 43) (X := (p2).toInt) hc (rfl) d_MO_against_38 (by decide) (fun c_9 => ?_) (fun c_9 => ?_)
        · refine lv_iload_n hx hb d_MO_against_43 rfl (lv_at hl 3 rfl) ?_
          refine u_if_lt (tgt := 70) (X := (p1).toInt) hc (rfl) d_MO_against_44 (by decide) (fun c_10 => ?_) (fun c_10 => ?_)
          · refine lv_iconst (v := nI 3) hx hb d_MO_against_70 (by decide) ?_
            refine lv_goto (tgt := 75) hx hb d_MO_against_71 (by decide) ?_
            exact R_i hc hr hlocks (by congr 2; unfold flt; (repeat' split) <;> first | rfl | omega | contradiction | (exfalso; simp_all; done) | (exfalso; simp_all; omega)) d_MO_against_75
          · refine lv_iload_n hx hb d_MO_against_47 rfl (lv_at hl 3 rfl) ?_
            refine lv_aload_n hx hb d_MO_against_48 rfl (lv_at hl 0 rfl) ?_
            refine gf_MO_13 hc hw d_MO_against_49 ?_
            refine lv_iload_n hx hb d_MO_against_52 rfl (lv_at hl 1 rfl) ?_
            refine r_iald hc hw (h := 60) (n := 4) (i := k) (fun _ => rfl) (by omega) (by omega) (by decide) d_MO_against_53 (v := .int (nI sz)) (congrArg Value.int (h60)) ?_
            refine u_icmp_gt (tgt := 70) (X := (p1).toInt) (Y := ((sz : Nat) : Int)) hc (rfl) (nI_tI (by omega)) d_MO_against_54 (by decide) (fun c_11 => ?_) (fun c_11 => ?_)
            · refine lv_iconst (v := nI 3) hx hb d_MO_against_70 (by decide) ?_
              refine lv_goto (tgt := 75) hx hb d_MO_against_71 (by decide) ?_
              exact R_i hc hr hlocks (by congr 2; unfold flt; (repeat' split) <;> first | rfl | omega | contradiction | (exfalso; simp_all; done) | (exfalso; simp_all; omega)) d_MO_against_75
            · obtain ⟨j1, rfl, j1_1, j1_2⟩ := rng_nat (x := p1) (a := 0) (b := sz) ⟨by omega, by omega⟩ (by decide)
              have ej := nI_tI (j := j1) (by omega)
              refine lv_iload hx hb d_MO_against_57 (lv_at hl 4 rfl) ?_
              refine lv_aload_n hx hb d_MO_against_59 rfl (lv_at hl 0 rfl) ?_
              refine gf_MO_13 hc hw d_MO_against_60 ?_
              refine lv_iload_n hx hb d_MO_against_63 rfl (lv_at hl 1 rfl) ?_
              refine r_iald hc hw (h := 60) (n := 4) (i := k) (fun _ => rfl) (by omega) (by omega) (by decide) d_MO_against_64 (v := .int (nI sz)) (congrArg Value.int (h60)) ?_
              refine lv_iload_n hx hb d_MO_against_65 rfl (lv_at hl 3 rfl) ?_
              refine q_isub hc (by omega) d_MO_against_66 ?_
              refine u_icmp_le (tgt := 74) (X := (p2).toInt) (Y := ((sz - j1 : Nat) : Int)) hc (rfl) (nI_tI (by omega)) d_MO_against_67 (by decide) (fun c_12 => ?_) (fun c_12 => ?_)
              · refine lv_iconst (v := nI 0) hx hb d_MO_against_74 (by decide) ?_
                exact R_i hc hr hlocks (by congr 2; unfold flt; (repeat' split) <;> first | rfl | omega | contradiction | (exfalso; simp_all; done) | (exfalso; simp_all; omega)) d_MO_against_75
              · refine lv_iconst (v := nI 3) hx hb d_MO_against_70 (by decide) ?_
                refine lv_goto (tgt := 75) hx hb d_MO_against_71 (by decide) ?_
                exact R_i hc hr hlocks (by congr 2; unfold flt; (repeat' split) <;> first | rfl | omega | contradiction | (exfalso; simp_all; done) | (exfalso; simp_all; omega)) d_MO_against_75
        · refine lv_iconst (v := nI 4) hx hb d_MO_against_41 (by decide) ?_
          exact R_i hc hr hlocks (by congr 2; unfold flt; (repeat' split) <;> first | rfl | omega | contradiction | (exfalso; simp_all; done) | (exfalso; simp_all; omega)) d_MO_against_42
      · refine lv_iconst (v := nI 1) hx hb d_MO_against_34 (by decide) ?_
        exact R_i hc hr hlocks (by congr 2; unfold flt; (repeat' split) <;> first | rfl | omega | contradiction | (exfalso; simp_all; done) | (exfalso; simp_all; omega)) d_MO_against_35
    · refine lv_iconst (v := nI 2) hx hb d_MO_against_21 (by decide) ?_
      exact R_i hc hr hlocks (by congr 2; unfold flt; (repeat' split) <;> first | rfl | omega | contradiction | (exfalso; simp_all; done) | (exfalso; simp_all; omega)) d_MO_against_22
set_option maxHeartbeats 4000000 in
theorem c_MO_shows (l : Launch) (D : va_G) (g : wG) (F : wF) (p0 w K : Nat) (hp : p0 < 6) (hw1 : w ≤ 99) (h62 : F 62 p0 = nI K) (hK : K ≤ 2) : CR l y_MO_shows b_MO_shows 4 (Option.some Jvm.ClassFile.FieldType.int) 0 D g F [.ref (wad g 58), .int (nI p0), .int (nI w)] (.int (nI (shw K w))) := by
  refine CR.start rfl (Nat.le_of_ble_eq_true rfl) ?_
  intro p e s m args below meth c A ls hc hr hlocks hw hl
  have hl : lv_has ls 4 [(0, .ref (wad g 58)), (1, .int (nI p0)), (2, .int (nI w))] := hl
  have hx := hc.1
  have hb := hc.2.1
  refine lv_aload_n hx hb d_MO_shows_0 rfl (lv_at hl 0 rfl) ?_
  refine gf_MO_19 hc hw d_MO_shows_1 ?_
  refine lv_iload_n hx hb d_MO_shows_4 rfl (lv_at hl 1 rfl) ?_
  refine r_iald hc hw (h := 62) (n := 6) (i := p0) (fun _ => rfl) (by omega) (by omega) (by decide) d_MO_shows_5 (v := .int (nI K)) (congrArg Value.int (h62)) ?_
  refine q_if_ne (tgt := 13) hc (by omega) d_MO_shows_6 (by decide) (fun c_1 => ?_) (fun c_1 => ?_)
  · refine lv_iload_n hx hb d_MO_shows_13 rfl (lv_at hl 2 rfl) ?_
    refine lv_iconst (v := nI 3) hx hb d_MO_shows_14 (by decide) ?_
    refine q_iadd hc d_MO_shows_15 ?_
    refine lv_istore_n (lv' := [(3, .int (nI (w + 3))), (0, .ref (wad g 58)), (1, .int (nI p0)), (2, .int (nI w))]) hx hb d_MO_shows_16 rfl hl (by decide) rfl (fun ls hl => ?_)
    refine lv_aload_n hx hb d_MO_shows_17 rfl (lv_at hl 1 rfl) ?_
    refine gf_MO_19 hc hw d_MO_shows_18 ?_
    refine lv_iload_n hx hb d_MO_shows_21 rfl (lv_at hl 2 rfl) ?_
    refine r_iald hc hw (h := 62) (n := 6) (i := p0) (fun _ => rfl) (by omega) (by omega) (by decide) d_MO_shows_22 (v := .int (nI K)) (congrArg Value.int (h62)) ?_
    refine lv_iconst (v := nI 2) hx hb d_MO_shows_23 (by decide) ?_
    refine q_icmp_ne (tgt := 35) hc (by omega) (by omega) d_MO_shows_24 (by decide) (fun c_2 => ?_) (fun c_2 => ?_)
    · refine lv_iload_n hx hb d_MO_shows_35 rfl (lv_at hl 0 rfl) ?_
      exact R_i hc hr hlocks (by congr 2; unfold shw; (repeat' split) <;> omega) d_MO_shows_36
    · refine lv_iload_n hx hb d_MO_shows_27 rfl (lv_at hl 0 rfl) ?_
      refine lv_iload_n hx hb d_MO_shows_28 rfl (lv_at hl 3 rfl) ?_
      refine lv_iconst (v := nI 2) hx hb d_MO_shows_29 (by decide) ?_
      refine q_idiv hc (by omega) (by decide) (by decide) d_MO_shows_30 ?_
      refine q_iadd hc d_MO_shows_31 ?_
      refine lv_goto (tgt := 36) hx hb d_MO_shows_32 (by decide) ?_
      exact R_i hc hr hlocks (by congr 2; unfold shw; (repeat' split) <;> omega) d_MO_shows_36
  · refine lv_iload_n hx hb d_MO_shows_9 rfl (lv_at hl 2 rfl) ?_
    refine lv_goto (tgt := 16) hx hb d_MO_shows_10 (by decide) ?_
    refine lv_istore_n (lv' := [(3, .int (nI w)), (0, .ref (wad g 58)), (1, .int (nI p0)), (2, .int (nI w))]) hx hb d_MO_shows_16 rfl hl (by decide) rfl (fun ls hl => ?_)
    refine lv_aload_n hx hb d_MO_shows_17 rfl (lv_at hl 1 rfl) ?_
    refine gf_MO_19 hc hw d_MO_shows_18 ?_
    refine lv_iload_n hx hb d_MO_shows_21 rfl (lv_at hl 2 rfl) ?_
    refine r_iald hc hw (h := 62) (n := 6) (i := p0) (fun _ => rfl) (by omega) (by omega) (by decide) d_MO_shows_22 (v := .int (nI K)) (congrArg Value.int (h62)) ?_
    refine lv_iconst (v := nI 2) hx hb d_MO_shows_23 (by decide) ?_
    refine q_icmp_ne (tgt := 35) hc (by omega) (by omega) d_MO_shows_24 (by decide) (fun c_3 => ?_) (fun c_3 => ?_)
    · refine lv_iload_n hx hb d_MO_shows_35 rfl (lv_at hl 0 rfl) ?_
      exact R_i hc hr hlocks (by congr 2; unfold shw; (repeat' split) <;> omega) d_MO_shows_36
    · refine lv_iload_n hx hb d_MO_shows_27 rfl (lv_at hl 0 rfl) ?_
      refine lv_iload_n hx hb d_MO_shows_28 rfl (lv_at hl 3 rfl) ?_
      refine lv_iconst (v := nI 2) hx hb d_MO_shows_29 (by decide) ?_
      refine q_idiv hc (by omega) (by decide) (by decide) d_MO_shows_30 ?_
      refine q_iadd hc d_MO_shows_31 ?_
      refine lv_goto (tgt := 36) hx hb d_MO_shows_32 (by decide) ?_
      exact R_i hc hr hlocks (by congr 2; unfold shw; (repeat' split) <;> omega) d_MO_shows_36
set_option maxHeartbeats 4000000 in
theorem c_MO_spot (l : Launch) (D : va_G) (g : wG) (F : wF) (a b : Nat) : CR l y_MO_spot b_MO_spot 2 (Option.some Jvm.ClassFile.FieldType.int) 0 D g F [.int (nI a), .int (nI b)] (.int (nI (41 * a + b))) := by
  refine CR.start rfl (Nat.le_of_ble_eq_true rfl) ?_
  intro p e s m args below meth c A ls hc hr hlocks hw hl
  have hl : lv_has ls 2 [(0, .int (nI a)), (1, .int (nI b))] := hl
  have hx := hc.1
  have hb := hc.2.1
  refine lv_bipush (v := nI 41) hx hb d_MO_spot_0 (by decide) ?_
  refine lv_iload_n hx hb d_MO_spot_2 rfl (lv_at hl 0 rfl) ?_
  refine q_imul hc d_MO_spot_3 ?_
  refine lv_iload_n hx hb d_MO_spot_4 rfl (lv_at hl 1 rfl) ?_
  refine q_iadd hc d_MO_spot_5 ?_
  exact R_i hc hr hlocks (rfl) d_MO_spot_6
