/-! printed by wip/gen/meths10.py: the model, the text of a post -/
def kdT (x : Int32) : Nat := if x.toInt = 119 then 0 else if x.toInt = 109 then 1 else 2
def lfT (t u : Int32) : Nat := 10 * (tn t - 48) + (tn u - 48)
theorem kdT_le (x : Int32) : kdT x ≤ 2 := by unfold kdT; split; omega; split <;> omega
theorem gup {c : Nat → Int32} {k : Nat} (h : ∀ a, a < k → gos c a = true) (hk : gos c k = true) : ∀ a, a < k + 1 → gos c a = true := fun a ha => by
  rcases (show a < k ∨ a = k by omega) with q | q
  · exact h a q
  · rw [q]; exact hk
theorem gos_0q {c : Nat → Int32} {m q : Nat} (hm : m < 6) (hq : q = 1 + 3 * m) : gos c q = decide ((c q).toInt = 119 ∨ (c q).toInt = 109 ∨ (c q).toInt = 108) := by
  unfold gos; rw [if_neg (by omega), if_neg (by omega), if_pos (by omega)]
theorem gos_1q {c : Nat → Int32} {m q : Nat} (hm : m < 6) (hq : q = 1 + 3 * m) : gos c (q + 1) = decide (48 ≤ (c (q + 1)).toInt ∧ (c (q + 1)).toInt ≤ 52) := by
  unfold gos; rw [if_neg (by omega), if_neg (by omega), if_neg (by omega), if_pos (by omega)]
theorem gos_2q {c : Nat → Int32} {m q : Nat} (hm : m < 6) (hq : q = 1 + 3 * m) : gos c (q + 2) = sec (c (q + 1)) (c (q + 2)) := gos_2 (by omega) (by omega) (by omega) (by omega)
theorem gos_6q {c : Nat → Int32} {q : Nat} (hq : q = 1 + 3 * 6) : ¬ gos c q = true := by
  unfold gos; rw [if_neg (by omega), if_pos (by omega)]; decide
theorem sec_no {t u : Int32} (h : ¬ (48 ≤ u.toInt ∧ u.toInt ≤ 57)) : ¬ sec t u = true := by
  unfold sec
  split
  · rw [decide_eq_true_eq]; omega
  · rw [decide_eq_true_eq]; split <;> omega
theorem sec_tu {t u : Nat} (h1 : 48 ≤ t) (h2 : t ≤ 52) (h3 : 48 ≤ u) (h4 : u ≤ 57) : sec (nI t) (nI u) = true ↔ 1 ≤ 10 * (t - 48) + u - 48 ∧ 10 * (t - 48) + u - 48 ≤ 40 := by
  unfold sec
  rw [nI_tI (by omega), nI_tI (by omega)]
  split
  · rw [decide_eq_true_eq]; omega
  · rw [decide_eq_true_eq]; split <;> omega
theorem ff_n {c : Nat → Int32} {n : Nat} (h : ∀ a, a < n → gos c a = true) (hn : ¬ (n = 1 + 3 * ((n - 1) / 3) ∧ 2 ≤ (n - 1) / 3)) : ff c n = some n := by rw [ff_end h, if_neg hn]
theorem ff_y {c : Nat → Int32} {n : Nat} (h : ∀ a, a < n → gos c a = true) (hn : n = 1 + 3 * ((n - 1) / 3) ∧ 2 ≤ (n - 1) / 3) : ff c n = none := by rw [ff_end h, if_pos hn]
set_option maxHeartbeats 4000000 in
theorem c_MO_readPerson (l : Launch) (D : va_G) (g : wG) (F : wF) (cq : Nat → Int32) (bs mm n q : Nat) (hm : mm < 6) (hq : q = 1 + 3 * mm) (hqn : q ≤ n) (hn : bs + n ≤ 160) (hcc : ∀ a, a < n → F 61 (bs + a) = cq a) (h9 : F 58 9 = nI (bs + q)) (h10 : F 58 10 = nI mm) (hg : ∀ a, a < q → gos cq a = true) : CW l y_MO_readPerson b_MO_readPerson 4 (Option.some Jvm.ClassFile.FieldType.boolean) 1 0 0 D g F [.ref (wad g 58), .int (nI (bs + n))] (fun v g2 u => g = g2 ∧ ((v = some (.int (nI 1)) ∧ q + 3 ≤ n ∧ (∀ a, a < q + 3 → gos cq a = true) ∧ u 58 9 = nI (bs + (q + 3)) ∧ u 64 mm = nI (kdT (cq q)) ∧ u 65 mm = nI (lfT (cq (q + 1)) (cq (q + 2)))) ∨ (v = some (.int (nI 0)) ∧ ∃ a, q ≤ a ∧ a ≤ n ∧ a < q + 3 ∧ (∀ b, b < a → gos cq b = true) ∧ (a < n → ¬ gos cq a = true) ∧ u 58 9 = nI (bs + a))) ∧ ∀ k i, ¬ (k = 58 ∧ i = 9) → ¬ ((k = 64 ∨ k = 65) ∧ i = mm) → u k i = F k i) := by
  refine CW.start rfl (Nat.le_of_ble_eq_true rfl) ?_
  intro p e s m args below meth c A ls hc hr hlocks hw hl
  have hl : lv_has ls 4 [(0, .ref (wad g 58)), (1, .int (nI (bs + n)))] := hl
  have hx := hc.1
  have hb := hc.2.1
  refine lv_aload_n hx hb d_MO_readPerson_0 rfl (lv_at hl 0 rfl) ?_
  refine gf_MO_98 hc hw d_MO_readPerson_1 (v := .int (nI (bs + q))) (congrArg Value.int (h9)) ?_
  refine lv_iload_n hx hb d_MO_readPerson_4 rfl (lv_at hl 1 rfl) ?_
  refine q_icmp_ge (tgt := 20) hc (by omega) (by omega) d_MO_readPerson_5 (by decide) (fun c_1 => ?_) (fun c_1 => ?_)
  · refine lv_iconst (v := nI 0) hx hb d_MO_readPerson_20 (by decide) ?_
    refine lv_istore_n (lv' := [(2, .int (nI 0)), (0, .ref (wad g 58)), (1, .int (nI (bs + n)))]) hx hb d_MO_readPerson_21 rfl hl (by decide) rfl (fun ls hl => ?_)
    refine lv_aload_n hx hb d_MO_readPerson_22 rfl (lv_at hl 1 rfl) ?_
    refine gf_MO_25 hc hw d_MO_readPerson_23 ?_
    refine lv_aload_n hx hb d_MO_readPerson_26 rfl (lv_at hl 1 rfl) ?_
    refine gf_MO_104 hc hw d_MO_readPerson_27 (v := .int (nI mm)) (congrArg Value.int (h10)) ?_
    refine lv_iload_n hx hb d_MO_readPerson_30 rfl (lv_at hl 0 rfl) ?_
    refine lv_bipush (v := nI 119) hx hb d_MO_readPerson_31 (by decide) ?_
    refine q_icmp_ne (tgt := 40) hc (by omega) (by omega) d_MO_readPerson_33 (by decide) (fun c_2 => ?_) (fun c_2 => ?_)
    · refine lv_iload_n hx hb d_MO_readPerson_40 rfl (lv_at hl 0 rfl) ?_
      refine lv_bipush (v := nI 109) hx hb d_MO_readPerson_41 (by decide) ?_
      refine q_icmp_ne (tgt := 50) hc (by omega) (by omega) d_MO_readPerson_43 (by decide) (fun c_3 => ?_) (fun c_3 => ?_)
      · refine lv_iload_n hx hb d_MO_readPerson_50 rfl (lv_at hl 0 rfl) ?_
        refine lv_bipush (v := nI 108) hx hb d_MO_readPerson_51 (by decide) ?_
        refine q_icmp_ne (tgt := 60) hc (by omega) (by omega) d_MO_readPerson_53 (by decide) (fun c_4 => ?_) (fun c_4 => ?_)
        · have hnq0 : q < n → ¬ gos cq q = true := fun h => absurd h (by omega)
          refine lv_bipush (v := (-9)) hx hb d_MO_readPerson_60 (by decide) ?_
          refine r_iast hc hw (h := 64) (n := 6) (i := mm) (fun _ => rfl) (by omega) (by omega) (by decide) d_MO_readPerson_62 (fun H locs hw => ?_)
          refine lv_aload_n hx hb d_MO_readPerson_63 rfl (lv_at hl 1 rfl) ?_
          refine gf_MO_25 hc hw d_MO_readPerson_64 ?_
          refine lv_aload_n hx hb d_MO_readPerson_67 rfl (lv_at hl 1 rfl) ?_
          refine gf_MO_104 hc hw d_MO_readPerson_68 (v := .int (nI mm)) (congrArg Value.int ((u2_h (by decide)).trans (h10))) ?_
          refine r_iald hc hw (h := 64) (n := 6) (i := mm) (fun _ => rfl) (by omega) (by omega) (by decide) d_MO_readPerson_71 (v := .int ((-9))) (congrArg Value.int (u2_same _ _ _ _)) ?_
          refine lv_bipush (v := (-9)) hx hb d_MO_readPerson_72 (by decide) ?_
          refine u_icmp_ne (tgt := 79) (X := (-9)) (Y := (-9)) hc (by decide) (by decide) d_MO_readPerson_74 (by decide) (fun c_5 => ?_) (fun c_5 => ?_)
          · exact absurd c_5 (by decide)
          · refine lv_iconst (v := nI 0) hx hb d_MO_readPerson_77 (by decide) ?_
            exact W_z hc hw hr hlocks (⟨rfl, Or.inr ⟨rfl, q, by omega, by omega, by omega, hg, hnq0, ((u2_h (by decide)).trans (h9)).trans (congrArg nI (by omega))⟩, (fun k i h1 h2 => by simp only [u2]; repeat (rw [if_neg (by omega)]))⟩) rfl d_MO_readPerson_78
        · exact absurd c_4 (by first | omega | decide)
      · exact absurd c_3 (by first | omega | decide)
    · exact absurd c_2 (by first | omega | decide)
  · refine lv_aload_n hx hb d_MO_readPerson_8 rfl (lv_at hl 0 rfl) ?_
    refine gf_MO_16 hc hw d_MO_readPerson_9 ?_
    refine lv_aload_n hx hb d_MO_readPerson_12 rfl (lv_at hl 0 rfl) ?_
    refine gf_MO_98 hc hw d_MO_readPerson_13 (v := .int (nI (bs + q))) (congrArg Value.int (h9)) ?_
    refine r_iald hc hw (h := 61) (n := 160) (i := bs + q) (fun _ => rfl) (by omega) (by omega) (by decide) d_MO_readPerson_16 (v := .int (cq q)) (congrArg Value.int (hcc q (by omega))) ?_
    refine lv_goto (tgt := 21) hx hb d_MO_readPerson_17 (by decide) ?_
    refine lv_istore_n (lv' := [(2, .int (cq q)), (0, .ref (wad g 58)), (1, .int (nI (bs + n)))]) hx hb d_MO_readPerson_21 rfl hl (by decide) rfl (fun ls hl => ?_)
    refine lv_aload_n hx hb d_MO_readPerson_22 rfl (lv_at hl 1 rfl) ?_
    refine gf_MO_25 hc hw d_MO_readPerson_23 ?_
    refine lv_aload_n hx hb d_MO_readPerson_26 rfl (lv_at hl 1 rfl) ?_
    refine gf_MO_104 hc hw d_MO_readPerson_27 (v := .int (nI mm)) (congrArg Value.int (h10)) ?_
    refine lv_iload_n hx hb d_MO_readPerson_30 rfl (lv_at hl 0 rfl) ?_
    refine lv_bipush (v := nI 119) hx hb d_MO_readPerson_31 (by decide) ?_
    refine u_icmp_ne (tgt := 40) (X := (cq q).toInt) (Y := 119) hc (rfl) (by decide) d_MO_readPerson_33 (by decide) (fun c_6 => ?_) (fun c_6 => ?_)
    · refine lv_iload_n hx hb d_MO_readPerson_40 rfl (lv_at hl 0 rfl) ?_
      refine lv_bipush (v := nI 109) hx hb d_MO_readPerson_41 (by decide) ?_
      refine u_icmp_ne (tgt := 50) (X := (cq q).toInt) (Y := 109) hc (rfl) (by decide) d_MO_readPerson_43 (by decide) (fun c_7 => ?_) (fun c_7 => ?_)
      · refine lv_iload_n hx hb d_MO_readPerson_50 rfl (lv_at hl 0 rfl) ?_
        refine lv_bipush (v := nI 108) hx hb d_MO_readPerson_51 (by decide) ?_
        refine u_icmp_ne (tgt := 60) (X := (cq q).toInt) (Y := 108) hc (rfl) (by decide) d_MO_readPerson_53 (by decide) (fun c_8 => ?_) (fun c_8 => ?_)
        · have hnq0 : q < n → ¬ gos cq q = true := fun _ => by rw [gos_0q hm hq, decide_eq_true_eq]; omega
          refine lv_bipush (v := (-9)) hx hb d_MO_readPerson_60 (by decide) ?_
          refine r_iast hc hw (h := 64) (n := 6) (i := mm) (fun _ => rfl) (by omega) (by omega) (by decide) d_MO_readPerson_62 (fun H locs hw => ?_)
          refine lv_aload_n hx hb d_MO_readPerson_63 rfl (lv_at hl 1 rfl) ?_
          refine gf_MO_25 hc hw d_MO_readPerson_64 ?_
          refine lv_aload_n hx hb d_MO_readPerson_67 rfl (lv_at hl 1 rfl) ?_
          refine gf_MO_104 hc hw d_MO_readPerson_68 (v := .int (nI mm)) (congrArg Value.int ((u2_h (by decide)).trans (h10))) ?_
          refine r_iald hc hw (h := 64) (n := 6) (i := mm) (fun _ => rfl) (by omega) (by omega) (by decide) d_MO_readPerson_71 (v := .int ((-9))) (congrArg Value.int (u2_same _ _ _ _)) ?_
          refine lv_bipush (v := (-9)) hx hb d_MO_readPerson_72 (by decide) ?_
          refine u_icmp_ne (tgt := 79) (X := (-9)) (Y := (-9)) hc (by decide) (by decide) d_MO_readPerson_74 (by decide) (fun c_9 => ?_) (fun c_9 => ?_)
          · exact absurd c_9 (by decide)
          · refine lv_iconst (v := nI 0) hx hb d_MO_readPerson_77 (by decide) ?_
            exact W_z hc hw hr hlocks (⟨rfl, Or.inr ⟨rfl, q, by omega, by omega, by omega, hg, hnq0, ((u2_h (by decide)).trans (h9)).trans (congrArg nI (by omega))⟩, (fun k i h1 h2 => by simp only [u2]; repeat (rw [if_neg (by omega)]))⟩) rfl d_MO_readPerson_78
        · have hgq0 : gos cq q = true := by rw [gos_0q hm hq, decide_eq_true_eq]; omega
          have hkd : kdT (cq q) = 2 := by unfold kdT; rw [if_neg (by omega), if_neg (by omega)]
          refine lv_iconst (v := nI 2) hx hb d_MO_readPerson_56 (by decide) ?_
          refine lv_goto (tgt := 62) hx hb d_MO_readPerson_57 (by decide) ?_
          refine r_iast hc hw (h := 64) (n := 6) (i := mm) (fun _ => rfl) (by omega) (by omega) (by decide) d_MO_readPerson_62 (fun H locs hw => ?_)
          refine lv_aload_n hx hb d_MO_readPerson_63 rfl (lv_at hl 1 rfl) ?_
          refine gf_MO_25 hc hw d_MO_readPerson_64 ?_
          refine lv_aload_n hx hb d_MO_readPerson_67 rfl (lv_at hl 1 rfl) ?_
          refine gf_MO_104 hc hw d_MO_readPerson_68 (v := .int (nI mm)) (congrArg Value.int ((u2_h (by decide)).trans (h10))) ?_
          refine r_iald hc hw (h := 64) (n := 6) (i := mm) (fun _ => rfl) (by omega) (by omega) (by decide) d_MO_readPerson_71 (v := .int (nI 2)) (congrArg Value.int (u2_same _ _ _ _)) ?_
          refine lv_bipush (v := (-9)) hx hb d_MO_readPerson_72 (by decide) ?_
          refine u_icmp_ne (tgt := 79) (X := 2) (Y := (-9)) hc (by decide) (by decide) d_MO_readPerson_74 (by decide) (fun c_10 => ?_) (fun c_10 => ?_)
          · refine lv_aload_n hx hb d_MO_readPerson_79 rfl (lv_at hl 1 rfl) ?_
            refine lv_dup hx hb d_MO_readPerson_80 rfl ?_
            refine gf_MO_98 hc hw d_MO_readPerson_81 (v := .int (nI (bs + q))) (congrArg Value.int ((u2_h (by decide)).trans (h9))) ?_
            refine lv_iconst (v := nI 1) hx hb d_MO_readPerson_84 (by decide) ?_
            refine q_iadd hc d_MO_readPerson_85 ?_
            refine pf_MO_98 hc hw d_MO_readPerson_86 (fun H locs hw => ?_)
            refine lv_aload_n hx hb d_MO_readPerson_89 rfl (lv_at hl 1 rfl) ?_
            refine gf_MO_98 hc hw d_MO_readPerson_90 (v := .int (nI ((bs + q) + 1))) (congrArg Value.int (u2_same _ _ _ _)) ?_
            refine lv_iload_n hx hb d_MO_readPerson_93 rfl (lv_at hl 2 rfl) ?_
            refine q_icmp_ge (tgt := 116) hc (by omega) (by omega) d_MO_readPerson_94 (by decide) (fun c_11 => ?_) (fun c_11 => ?_)
            · have hnq1 : q + 1 < n → ¬ gos cq (q + 1) = true := fun h => absurd h (by omega)
              refine lv_iconst (v := nI 0) hx hb d_MO_readPerson_116 (by decide) ?_
              exact W_z hc hw hr hlocks (⟨rfl, Or.inr ⟨rfl, q + 1, by omega, by omega, by omega, gup hg hgq0, hnq1, (u2_same _ _ _ _).trans (congrArg nI (by omega))⟩, (fun k i h1 h2 => by simp only [u2]; repeat (rw [if_neg (by omega)]))⟩) rfl d_MO_readPerson_117
            · refine lv_aload_n hx hb d_MO_readPerson_97 rfl (lv_at hl 1 rfl) ?_
              refine gf_MO_16 hc hw d_MO_readPerson_98 ?_
              refine lv_aload_n hx hb d_MO_readPerson_101 rfl (lv_at hl 1 rfl) ?_
              refine gf_MO_98 hc hw d_MO_readPerson_102 (v := .int (nI ((bs + q) + 1))) (congrArg Value.int (u2_same _ _ _ _)) ?_
              refine r_iald hc hw (h := 61) (n := 160) (i := (bs + q) + 1) (fun _ => rfl) (by omega) (by omega) (by decide) d_MO_readPerson_105 (v := .int (cq (q + 1))) (congrArg Value.int ((u2_h (by decide)).trans ((u2_h (by decide)).trans (hcc (q + 1) (by omega))))) ?_
              refine lv_bipush (v := nI 48) hx hb d_MO_readPerson_106 (by decide) ?_
              refine lv_bipush (v := nI 52) hx hb d_MO_readPerson_108 (by decide) ?_
              refine kRS hc hw lk_MO_76 (As := [.int (cq (q + 1)), .int (nI 48), .int (nI 52)]) (rest := []) (c_MO_within l D g _ (cq (q + 1)) (nI 48) (nI 52) 48 52 (by decide) (by decide)) ⟨Nat.le_of_ble_eq_true rfl, Nat.le_of_ble_eq_true rfl⟩ ⟨Nat.le_refl _, Nat.le_refl _⟩ rfl hl rfl (Nat.le_of_ble_eq_true rfl) d_MO_readPerson_110 ?_
              refine b_if_ne (tgt := 118) hc d_MO_readPerson_113 (by decide) (fun c_12 => ?_) (fun c_12 => ?_)
              · try unfold rng at c_12
                have hgq1 : gos cq (q + 1) = true := by rw [gos_1q hm hq, decide_eq_true_eq]; exact c_12
                obtain ⟨t5, ht5, ht5_1, ht5_2⟩ := rng_nat (x := cq (q + 1)) (a := 48) (b := 52) c_12 (by decide)
                refine lv_aload_n hx hb d_MO_readPerson_118 rfl (lv_at hl 1 rfl) ?_
                refine gf_MO_16 hc hw d_MO_readPerson_119 ?_
                refine lv_aload_n hx hb d_MO_readPerson_122 rfl (lv_at hl 1 rfl) ?_
                refine gf_MO_98 hc hw d_MO_readPerson_123 (v := .int (nI ((bs + q) + 1))) (congrArg Value.int (u2_same _ _ _ _)) ?_
                refine r_iald hc hw (h := 61) (n := 160) (i := (bs + q) + 1) (fun _ => rfl) (by omega) (by omega) (by decide) d_MO_readPerson_126 (v := .int (nI t5)) (congrArg Value.int (((u2_h (by decide)).trans ((u2_h (by decide)).trans (hcc (q + 1) (by omega)))).trans ht5)) ?_
                refine lv_bipush (v := nI 48) hx hb d_MO_readPerson_127 (by decide) ?_
                refine q_isub hc (by omega) d_MO_readPerson_129 ?_
                refine lv_istore_n (lv' := [(3, .int (nI (t5 - 48))), (2, .int (cq q)), (0, .ref (wad g 58)), (1, .int (nI (bs + n)))]) hx hb d_MO_readPerson_130 rfl hl (by decide) rfl (fun ls hl => ?_)
                refine lv_aload_n hx hb d_MO_readPerson_131 rfl (lv_at hl 2 rfl) ?_
                refine lv_dup hx hb d_MO_readPerson_132 rfl ?_
                refine gf_MO_98 hc hw d_MO_readPerson_133 (v := .int (nI ((bs + q) + 1))) (congrArg Value.int (u2_same _ _ _ _)) ?_
                refine lv_iconst (v := nI 1) hx hb d_MO_readPerson_136 (by decide) ?_
                refine q_iadd hc d_MO_readPerson_137 ?_
                refine pf_MO_98 hc hw d_MO_readPerson_138 (fun H locs hw => ?_)
                refine lv_aload_n hx hb d_MO_readPerson_141 rfl (lv_at hl 2 rfl) ?_
                refine gf_MO_98 hc hw d_MO_readPerson_142 (v := .int (nI (((bs + q) + 1) + 1))) (congrArg Value.int (u2_same _ _ _ _)) ?_
                refine lv_iload_n hx hb d_MO_readPerson_145 rfl (lv_at hl 3 rfl) ?_
                refine q_icmp_ge (tgt := 168) hc (by omega) (by omega) d_MO_readPerson_146 (by decide) (fun c_13 => ?_) (fun c_13 => ?_)
                · have hnq2 : q + 2 < n → ¬ gos cq (q + 2) = true := fun h => absurd h (by omega)
                  refine lv_iconst (v := nI 0) hx hb d_MO_readPerson_168 (by decide) ?_
                  exact W_z hc hw hr hlocks (⟨rfl, Or.inr ⟨rfl, q + 2, by omega, by omega, by omega, gup (gup hg hgq0) hgq1, hnq2, (u2_same _ _ _ _).trans (congrArg nI (by omega))⟩, (fun k i h1 h2 => by simp only [u2]; repeat (rw [if_neg (by omega)]))⟩) rfl d_MO_readPerson_169
                · refine lv_aload_n hx hb d_MO_readPerson_149 rfl (lv_at hl 2 rfl) ?_
                  refine gf_MO_16 hc hw d_MO_readPerson_150 ?_
                  refine lv_aload_n hx hb d_MO_readPerson_153 rfl (lv_at hl 2 rfl) ?_
                  refine gf_MO_98 hc hw d_MO_readPerson_154 (v := .int (nI (((bs + q) + 1) + 1))) (congrArg Value.int (u2_same _ _ _ _)) ?_
                  refine r_iald hc hw (h := 61) (n := 160) (i := ((bs + q) + 1) + 1) (fun _ => rfl) (by omega) (by omega) (by decide) d_MO_readPerson_157 (v := .int (cq (q + 2))) (congrArg Value.int ((u2_h (by decide)).trans ((u2_h (by decide)).trans ((u2_h (by decide)).trans (hcc (q + 2) (by omega)))))) ?_
                  refine lv_bipush (v := nI 48) hx hb d_MO_readPerson_158 (by decide) ?_
                  refine lv_bipush (v := nI 57) hx hb d_MO_readPerson_160 (by decide) ?_
                  refine kRS hc hw lk_MO_76 (As := [.int (cq (q + 2)), .int (nI 48), .int (nI 57)]) (rest := []) (c_MO_within l D g _ (cq (q + 2)) (nI 48) (nI 57) 48 57 (by decide) (by decide)) ⟨Nat.le_of_ble_eq_true rfl, Nat.le_of_ble_eq_true rfl⟩ ⟨Nat.le_refl _, Nat.le_refl _⟩ rfl hl rfl (Nat.le_of_ble_eq_true rfl) d_MO_readPerson_162 ?_
                  refine b_if_ne (tgt := 170) hc d_MO_readPerson_165 (by decide) (fun c_14 => ?_) (fun c_14 => ?_)
                  · try unfold rng at c_14
                    obtain ⟨u5, hu5, hu5_1, hu5_2⟩ := rng_nat (x := cq (q + 2)) (a := 48) (b := 57) c_14 (by decide)
                    refine lv_aload_n hx hb d_MO_readPerson_170 rfl (lv_at hl 2 rfl) ?_
                    refine gf_MO_28 hc hw d_MO_readPerson_171 ?_
                    refine lv_aload_n hx hb d_MO_readPerson_174 rfl (lv_at hl 2 rfl) ?_
                    refine gf_MO_104 hc hw d_MO_readPerson_175 (v := .int (nI mm)) (congrArg Value.int ((u2_i (by decide)).trans ((u2_i (by decide)).trans ((u2_h (by decide)).trans (h10))))) ?_
                    refine lv_bipush (v := nI 10) hx hb d_MO_readPerson_178 (by decide) ?_
                    refine lv_iload_n hx hb d_MO_readPerson_180 rfl (lv_at hl 0 rfl) ?_
                    refine q_imul hc d_MO_readPerson_181 ?_
                    refine lv_aload_n hx hb d_MO_readPerson_182 rfl (lv_at hl 2 rfl) ?_
                    refine gf_MO_16 hc hw d_MO_readPerson_183 ?_
                    refine lv_aload_n hx hb d_MO_readPerson_186 rfl (lv_at hl 2 rfl) ?_
                    refine gf_MO_98 hc hw d_MO_readPerson_187 (v := .int (nI (((bs + q) + 1) + 1))) (congrArg Value.int (u2_same _ _ _ _)) ?_
                    refine r_iald hc hw (h := 61) (n := 160) (i := ((bs + q) + 1) + 1) (fun _ => rfl) (by omega) (by omega) (by decide) d_MO_readPerson_190 (v := .int (nI u5)) (congrArg Value.int (((u2_h (by decide)).trans ((u2_h (by decide)).trans ((u2_h (by decide)).trans (hcc (q + 2) (by omega))))).trans hu5)) ?_
                    refine q_iadd hc d_MO_readPerson_191 ?_
                    refine lv_bipush (v := nI 48) hx hb d_MO_readPerson_192 (by decide) ?_
                    refine q_isub hc (by omega) d_MO_readPerson_194 ?_
                    refine r_iast hc hw (h := 65) (n := 6) (i := mm) (fun _ => rfl) (by omega) (by omega) (by decide) d_MO_readPerson_195 (fun H locs hw => ?_)
                    refine lv_aload_n hx hb d_MO_readPerson_196 rfl (lv_at hl 2 rfl) ?_
                    refine gf_MO_28 hc hw d_MO_readPerson_197 ?_
                    refine lv_aload_n hx hb d_MO_readPerson_200 rfl (lv_at hl 2 rfl) ?_
                    refine gf_MO_104 hc hw d_MO_readPerson_201 (v := .int (nI mm)) (congrArg Value.int ((u2_h (by decide)).trans ((u2_i (by decide)).trans ((u2_i (by decide)).trans ((u2_h (by decide)).trans (h10)))))) ?_
                    refine r_iald hc hw (h := 65) (n := 6) (i := mm) (fun _ => rfl) (by omega) (by omega) (by decide) d_MO_readPerson_204 (v := .int (nI (((10 * (t5 - 48)) + u5) - 48))) (congrArg Value.int (u2_same _ _ _ _)) ?_
                    refine lv_iconst (v := nI 1) hx hb d_MO_readPerson_205 (by decide) ?_
                    refine lv_bipush (v := nI 40) hx hb d_MO_readPerson_206 (by decide) ?_
                    refine kRS hc hw lk_MO_76 (As := [.int (nI (((10 * (t5 - 48)) + u5) - 48)), .int (nI 1), .int (nI 40)]) (rest := []) (c_MO_within l D g _ (nI (((10 * (t5 - 48)) + u5) - 48)) (nI 1) (nI 40) 1 40 (by decide) (by decide)) ⟨Nat.le_of_ble_eq_true rfl, Nat.le_of_ble_eq_true rfl⟩ ⟨Nat.le_refl _, Nat.le_refl _⟩ rfl hl rfl (Nat.le_of_ble_eq_true rfl) d_MO_readPerson_208 ?_
                    refine b_if_ne (tgt := 216) hc d_MO_readPerson_211 (by decide) (fun c_15 => ?_) (fun c_15 => ?_)
                    · try unfold rng at c_15
                      rw [nI_tI (by omega)] at c_15
                      have hgq2 : gos cq (q + 2) = true := by rw [gos_2q hm hq, ht5, hu5, sec_tu (by omega) (by omega) (by omega) (by omega)]; omega
                      refine lv_aload_n hx hb d_MO_readPerson_216 rfl (lv_at hl 2 rfl) ?_
                      refine lv_dup hx hb d_MO_readPerson_217 rfl ?_
                      refine gf_MO_98 hc hw d_MO_readPerson_218 (v := .int (nI (((bs + q) + 1) + 1))) (congrArg Value.int ((u2_h (by decide)).trans (u2_same _ _ _ _))) ?_
                      refine lv_iconst (v := nI 1) hx hb d_MO_readPerson_221 (by decide) ?_
                      refine q_iadd hc d_MO_readPerson_222 ?_
                      refine pf_MO_98 hc hw d_MO_readPerson_223 (fun H locs hw => ?_)
                      refine lv_iconst (v := nI 1) hx hb d_MO_readPerson_226 (by decide) ?_
                      exact W_z hc hw hr hlocks (⟨rfl, Or.inl ⟨rfl, by omega, gup (gup (gup hg hgq0) hgq1) hgq2, (u2_same _ _ _ _).trans (congrArg nI (by omega)), ((u2_h (by decide)).trans ((u2_h (by decide)).trans ((u2_h (by decide)).trans ((u2_h (by decide)).trans (u2_same _ _ _ _))))).trans (by rw [hkd]), ((u2_h (by decide)).trans (u2_same _ _ _ _)).trans (by rw [ht5, hu5]; unfold lfT; rw [tn_nI (by omega), tn_nI (by omega)]; exact congrArg nI (by omega))⟩, (fun k i h1 h2 => by simp only [u2]; repeat (rw [if_neg (by omega)]))⟩) rfl d_MO_readPerson_227
                    · try unfold rng at c_15
                      rw [nI_tI (by omega)] at c_15
                      have hnq2 : q + 2 < n → ¬ gos cq (q + 2) = true := fun _ => by rw [gos_2q hm hq, ht5, hu5, sec_tu (by omega) (by omega) (by omega) (by omega)]; omega
                      refine lv_iconst (v := nI 0) hx hb d_MO_readPerson_214 (by decide) ?_
                      exact W_z hc hw hr hlocks (⟨rfl, Or.inr ⟨rfl, q + 2, by omega, by omega, by omega, gup (gup hg hgq0) hgq1, hnq2, ((u2_h (by decide)).trans (u2_same _ _ _ _)).trans (congrArg nI (by omega))⟩, (fun k i h1 h2 => by simp only [u2]; repeat (rw [if_neg (by omega)]))⟩) rfl d_MO_readPerson_215
                  · try unfold rng at c_14
                    have hnq2 : q + 2 < n → ¬ gos cq (q + 2) = true := fun _ => by rw [gos_2q hm hq]; exact sec_no c_14
                    refine lv_iconst (v := nI 0) hx hb d_MO_readPerson_168 (by decide) ?_
                    exact W_z hc hw hr hlocks (⟨rfl, Or.inr ⟨rfl, q + 2, by omega, by omega, by omega, gup (gup hg hgq0) hgq1, hnq2, (u2_same _ _ _ _).trans (congrArg nI (by omega))⟩, (fun k i h1 h2 => by simp only [u2]; repeat (rw [if_neg (by omega)]))⟩) rfl d_MO_readPerson_169
              · try unfold rng at c_12
                have hnq1 : q + 1 < n → ¬ gos cq (q + 1) = true := fun _ => by rw [gos_1q hm hq, decide_eq_true_eq]; exact c_12
                refine lv_iconst (v := nI 0) hx hb d_MO_readPerson_116 (by decide) ?_
                exact W_z hc hw hr hlocks (⟨rfl, Or.inr ⟨rfl, q + 1, by omega, by omega, by omega, gup hg hgq0, hnq1, (u2_same _ _ _ _).trans (congrArg nI (by omega))⟩, (fun k i h1 h2 => by simp only [u2]; repeat (rw [if_neg (by omega)]))⟩) rfl d_MO_readPerson_117
          · exact absurd c_10 (by decide)
      · have hgq0 : gos cq q = true := by rw [gos_0q hm hq, decide_eq_true_eq]; omega
        have hkd : kdT (cq q) = 1 := by unfold kdT; rw [if_neg (by omega), if_pos c_7]
        refine lv_iconst (v := nI 1) hx hb d_MO_readPerson_46 (by decide) ?_
        refine lv_goto (tgt := 62) hx hb d_MO_readPerson_47 (by decide) ?_
        refine r_iast hc hw (h := 64) (n := 6) (i := mm) (fun _ => rfl) (by omega) (by omega) (by decide) d_MO_readPerson_62 (fun H locs hw => ?_)
        refine lv_aload_n hx hb d_MO_readPerson_63 rfl (lv_at hl 1 rfl) ?_
        refine gf_MO_25 hc hw d_MO_readPerson_64 ?_
        refine lv_aload_n hx hb d_MO_readPerson_67 rfl (lv_at hl 1 rfl) ?_
        refine gf_MO_104 hc hw d_MO_readPerson_68 (v := .int (nI mm)) (congrArg Value.int ((u2_h (by decide)).trans (h10))) ?_
        refine r_iald hc hw (h := 64) (n := 6) (i := mm) (fun _ => rfl) (by omega) (by omega) (by decide) d_MO_readPerson_71 (v := .int (nI 1)) (congrArg Value.int (u2_same _ _ _ _)) ?_
        refine lv_bipush (v := (-9)) hx hb d_MO_readPerson_72 (by decide) ?_
        refine u_icmp_ne (tgt := 79) (X := 1) (Y := (-9)) hc (by decide) (by decide) d_MO_readPerson_74 (by decide) (fun c_16 => ?_) (fun c_16 => ?_)
        · refine lv_aload_n hx hb d_MO_readPerson_79 rfl (lv_at hl 1 rfl) ?_
          refine lv_dup hx hb d_MO_readPerson_80 rfl ?_
          refine gf_MO_98 hc hw d_MO_readPerson_81 (v := .int (nI (bs + q))) (congrArg Value.int ((u2_h (by decide)).trans (h9))) ?_
          refine lv_iconst (v := nI 1) hx hb d_MO_readPerson_84 (by decide) ?_
          refine q_iadd hc d_MO_readPerson_85 ?_
          refine pf_MO_98 hc hw d_MO_readPerson_86 (fun H locs hw => ?_)
          refine lv_aload_n hx hb d_MO_readPerson_89 rfl (lv_at hl 1 rfl) ?_
          refine gf_MO_98 hc hw d_MO_readPerson_90 (v := .int (nI ((bs + q) + 1))) (congrArg Value.int (u2_same _ _ _ _)) ?_
          refine lv_iload_n hx hb d_MO_readPerson_93 rfl (lv_at hl 2 rfl) ?_
          refine q_icmp_ge (tgt := 116) hc (by omega) (by omega) d_MO_readPerson_94 (by decide) (fun c_17 => ?_) (fun c_17 => ?_)
          · have hnq1 : q + 1 < n → ¬ gos cq (q + 1) = true := fun h => absurd h (by omega)
            refine lv_iconst (v := nI 0) hx hb d_MO_readPerson_116 (by decide) ?_
            exact W_z hc hw hr hlocks (⟨rfl, Or.inr ⟨rfl, q + 1, by omega, by omega, by omega, gup hg hgq0, hnq1, (u2_same _ _ _ _).trans (congrArg nI (by omega))⟩, (fun k i h1 h2 => by simp only [u2]; repeat (rw [if_neg (by omega)]))⟩) rfl d_MO_readPerson_117
          · refine lv_aload_n hx hb d_MO_readPerson_97 rfl (lv_at hl 1 rfl) ?_
            refine gf_MO_16 hc hw d_MO_readPerson_98 ?_
            refine lv_aload_n hx hb d_MO_readPerson_101 rfl (lv_at hl 1 rfl) ?_
            refine gf_MO_98 hc hw d_MO_readPerson_102 (v := .int (nI ((bs + q) + 1))) (congrArg Value.int (u2_same _ _ _ _)) ?_
            refine r_iald hc hw (h := 61) (n := 160) (i := (bs + q) + 1) (fun _ => rfl) (by omega) (by omega) (by decide) d_MO_readPerson_105 (v := .int (cq (q + 1))) (congrArg Value.int ((u2_h (by decide)).trans ((u2_h (by decide)).trans (hcc (q + 1) (by omega))))) ?_
            refine lv_bipush (v := nI 48) hx hb d_MO_readPerson_106 (by decide) ?_
            refine lv_bipush (v := nI 52) hx hb d_MO_readPerson_108 (by decide) ?_
            refine kRS hc hw lk_MO_76 (As := [.int (cq (q + 1)), .int (nI 48), .int (nI 52)]) (rest := []) (c_MO_within l D g _ (cq (q + 1)) (nI 48) (nI 52) 48 52 (by decide) (by decide)) ⟨Nat.le_of_ble_eq_true rfl, Nat.le_of_ble_eq_true rfl⟩ ⟨Nat.le_refl _, Nat.le_refl _⟩ rfl hl rfl (Nat.le_of_ble_eq_true rfl) d_MO_readPerson_110 ?_
            refine b_if_ne (tgt := 118) hc d_MO_readPerson_113 (by decide) (fun c_18 => ?_) (fun c_18 => ?_)
            · try unfold rng at c_18
              have hgq1 : gos cq (q + 1) = true := by rw [gos_1q hm hq, decide_eq_true_eq]; exact c_18
              obtain ⟨t5, ht5, ht5_1, ht5_2⟩ := rng_nat (x := cq (q + 1)) (a := 48) (b := 52) c_18 (by decide)
              refine lv_aload_n hx hb d_MO_readPerson_118 rfl (lv_at hl 1 rfl) ?_
              refine gf_MO_16 hc hw d_MO_readPerson_119 ?_
              refine lv_aload_n hx hb d_MO_readPerson_122 rfl (lv_at hl 1 rfl) ?_
              refine gf_MO_98 hc hw d_MO_readPerson_123 (v := .int (nI ((bs + q) + 1))) (congrArg Value.int (u2_same _ _ _ _)) ?_
              refine r_iald hc hw (h := 61) (n := 160) (i := (bs + q) + 1) (fun _ => rfl) (by omega) (by omega) (by decide) d_MO_readPerson_126 (v := .int (nI t5)) (congrArg Value.int (((u2_h (by decide)).trans ((u2_h (by decide)).trans (hcc (q + 1) (by omega)))).trans ht5)) ?_
              refine lv_bipush (v := nI 48) hx hb d_MO_readPerson_127 (by decide) ?_
              refine q_isub hc (by omega) d_MO_readPerson_129 ?_
              refine lv_istore_n (lv' := [(3, .int (nI (t5 - 48))), (2, .int (cq q)), (0, .ref (wad g 58)), (1, .int (nI (bs + n)))]) hx hb d_MO_readPerson_130 rfl hl (by decide) rfl (fun ls hl => ?_)
              refine lv_aload_n hx hb d_MO_readPerson_131 rfl (lv_at hl 2 rfl) ?_
              refine lv_dup hx hb d_MO_readPerson_132 rfl ?_
              refine gf_MO_98 hc hw d_MO_readPerson_133 (v := .int (nI ((bs + q) + 1))) (congrArg Value.int (u2_same _ _ _ _)) ?_
              refine lv_iconst (v := nI 1) hx hb d_MO_readPerson_136 (by decide) ?_
              refine q_iadd hc d_MO_readPerson_137 ?_
              refine pf_MO_98 hc hw d_MO_readPerson_138 (fun H locs hw => ?_)
              refine lv_aload_n hx hb d_MO_readPerson_141 rfl (lv_at hl 2 rfl) ?_
              refine gf_MO_98 hc hw d_MO_readPerson_142 (v := .int (nI (((bs + q) + 1) + 1))) (congrArg Value.int (u2_same _ _ _ _)) ?_
              refine lv_iload_n hx hb d_MO_readPerson_145 rfl (lv_at hl 3 rfl) ?_
              refine q_icmp_ge (tgt := 168) hc (by omega) (by omega) d_MO_readPerson_146 (by decide) (fun c_19 => ?_) (fun c_19 => ?_)
              · have hnq2 : q + 2 < n → ¬ gos cq (q + 2) = true := fun h => absurd h (by omega)
                refine lv_iconst (v := nI 0) hx hb d_MO_readPerson_168 (by decide) ?_
                exact W_z hc hw hr hlocks (⟨rfl, Or.inr ⟨rfl, q + 2, by omega, by omega, by omega, gup (gup hg hgq0) hgq1, hnq2, (u2_same _ _ _ _).trans (congrArg nI (by omega))⟩, (fun k i h1 h2 => by simp only [u2]; repeat (rw [if_neg (by omega)]))⟩) rfl d_MO_readPerson_169
              · refine lv_aload_n hx hb d_MO_readPerson_149 rfl (lv_at hl 2 rfl) ?_
                refine gf_MO_16 hc hw d_MO_readPerson_150 ?_
                refine lv_aload_n hx hb d_MO_readPerson_153 rfl (lv_at hl 2 rfl) ?_
                refine gf_MO_98 hc hw d_MO_readPerson_154 (v := .int (nI (((bs + q) + 1) + 1))) (congrArg Value.int (u2_same _ _ _ _)) ?_
                refine r_iald hc hw (h := 61) (n := 160) (i := ((bs + q) + 1) + 1) (fun _ => rfl) (by omega) (by omega) (by decide) d_MO_readPerson_157 (v := .int (cq (q + 2))) (congrArg Value.int ((u2_h (by decide)).trans ((u2_h (by decide)).trans ((u2_h (by decide)).trans (hcc (q + 2) (by omega)))))) ?_
                refine lv_bipush (v := nI 48) hx hb d_MO_readPerson_158 (by decide) ?_
                refine lv_bipush (v := nI 57) hx hb d_MO_readPerson_160 (by decide) ?_
                refine kRS hc hw lk_MO_76 (As := [.int (cq (q + 2)), .int (nI 48), .int (nI 57)]) (rest := []) (c_MO_within l D g _ (cq (q + 2)) (nI 48) (nI 57) 48 57 (by decide) (by decide)) ⟨Nat.le_of_ble_eq_true rfl, Nat.le_of_ble_eq_true rfl⟩ ⟨Nat.le_refl _, Nat.le_refl _⟩ rfl hl rfl (Nat.le_of_ble_eq_true rfl) d_MO_readPerson_162 ?_
                refine b_if_ne (tgt := 170) hc d_MO_readPerson_165 (by decide) (fun c_20 => ?_) (fun c_20 => ?_)
                · try unfold rng at c_20
                  obtain ⟨u5, hu5, hu5_1, hu5_2⟩ := rng_nat (x := cq (q + 2)) (a := 48) (b := 57) c_20 (by decide)
                  refine lv_aload_n hx hb d_MO_readPerson_170 rfl (lv_at hl 2 rfl) ?_
                  refine gf_MO_28 hc hw d_MO_readPerson_171 ?_
                  refine lv_aload_n hx hb d_MO_readPerson_174 rfl (lv_at hl 2 rfl) ?_
                  refine gf_MO_104 hc hw d_MO_readPerson_175 (v := .int (nI mm)) (congrArg Value.int ((u2_i (by decide)).trans ((u2_i (by decide)).trans ((u2_h (by decide)).trans (h10))))) ?_
                  refine lv_bipush (v := nI 10) hx hb d_MO_readPerson_178 (by decide) ?_
                  refine lv_iload_n hx hb d_MO_readPerson_180 rfl (lv_at hl 0 rfl) ?_
                  refine q_imul hc d_MO_readPerson_181 ?_
                  refine lv_aload_n hx hb d_MO_readPerson_182 rfl (lv_at hl 2 rfl) ?_
                  refine gf_MO_16 hc hw d_MO_readPerson_183 ?_
                  refine lv_aload_n hx hb d_MO_readPerson_186 rfl (lv_at hl 2 rfl) ?_
                  refine gf_MO_98 hc hw d_MO_readPerson_187 (v := .int (nI (((bs + q) + 1) + 1))) (congrArg Value.int (u2_same _ _ _ _)) ?_
                  refine r_iald hc hw (h := 61) (n := 160) (i := ((bs + q) + 1) + 1) (fun _ => rfl) (by omega) (by omega) (by decide) d_MO_readPerson_190 (v := .int (nI u5)) (congrArg Value.int (((u2_h (by decide)).trans ((u2_h (by decide)).trans ((u2_h (by decide)).trans (hcc (q + 2) (by omega))))).trans hu5)) ?_
                  refine q_iadd hc d_MO_readPerson_191 ?_
                  refine lv_bipush (v := nI 48) hx hb d_MO_readPerson_192 (by decide) ?_
                  refine q_isub hc (by omega) d_MO_readPerson_194 ?_
                  refine r_iast hc hw (h := 65) (n := 6) (i := mm) (fun _ => rfl) (by omega) (by omega) (by decide) d_MO_readPerson_195 (fun H locs hw => ?_)
                  refine lv_aload_n hx hb d_MO_readPerson_196 rfl (lv_at hl 2 rfl) ?_
                  refine gf_MO_28 hc hw d_MO_readPerson_197 ?_
                  refine lv_aload_n hx hb d_MO_readPerson_200 rfl (lv_at hl 2 rfl) ?_
                  refine gf_MO_104 hc hw d_MO_readPerson_201 (v := .int (nI mm)) (congrArg Value.int ((u2_h (by decide)).trans ((u2_i (by decide)).trans ((u2_i (by decide)).trans ((u2_h (by decide)).trans (h10)))))) ?_
                  refine r_iald hc hw (h := 65) (n := 6) (i := mm) (fun _ => rfl) (by omega) (by omega) (by decide) d_MO_readPerson_204 (v := .int (nI (((10 * (t5 - 48)) + u5) - 48))) (congrArg Value.int (u2_same _ _ _ _)) ?_
                  refine lv_iconst (v := nI 1) hx hb d_MO_readPerson_205 (by decide) ?_
                  refine lv_bipush (v := nI 40) hx hb d_MO_readPerson_206 (by decide) ?_
                  refine kRS hc hw lk_MO_76 (As := [.int (nI (((10 * (t5 - 48)) + u5) - 48)), .int (nI 1), .int (nI 40)]) (rest := []) (c_MO_within l D g _ (nI (((10 * (t5 - 48)) + u5) - 48)) (nI 1) (nI 40) 1 40 (by decide) (by decide)) ⟨Nat.le_of_ble_eq_true rfl, Nat.le_of_ble_eq_true rfl⟩ ⟨Nat.le_refl _, Nat.le_refl _⟩ rfl hl rfl (Nat.le_of_ble_eq_true rfl) d_MO_readPerson_208 ?_
                  refine b_if_ne (tgt := 216) hc d_MO_readPerson_211 (by decide) (fun c_21 => ?_) (fun c_21 => ?_)
                  · try unfold rng at c_21
                    rw [nI_tI (by omega)] at c_21
                    have hgq2 : gos cq (q + 2) = true := by rw [gos_2q hm hq, ht5, hu5, sec_tu (by omega) (by omega) (by omega) (by omega)]; omega
                    refine lv_aload_n hx hb d_MO_readPerson_216 rfl (lv_at hl 2 rfl) ?_
                    refine lv_dup hx hb d_MO_readPerson_217 rfl ?_
                    refine gf_MO_98 hc hw d_MO_readPerson_218 (v := .int (nI (((bs + q) + 1) + 1))) (congrArg Value.int ((u2_h (by decide)).trans (u2_same _ _ _ _))) ?_
                    refine lv_iconst (v := nI 1) hx hb d_MO_readPerson_221 (by decide) ?_
                    refine q_iadd hc d_MO_readPerson_222 ?_
                    refine pf_MO_98 hc hw d_MO_readPerson_223 (fun H locs hw => ?_)
                    refine lv_iconst (v := nI 1) hx hb d_MO_readPerson_226 (by decide) ?_
                    exact W_z hc hw hr hlocks (⟨rfl, Or.inl ⟨rfl, by omega, gup (gup (gup hg hgq0) hgq1) hgq2, (u2_same _ _ _ _).trans (congrArg nI (by omega)), ((u2_h (by decide)).trans ((u2_h (by decide)).trans ((u2_h (by decide)).trans ((u2_h (by decide)).trans (u2_same _ _ _ _))))).trans (by rw [hkd]), ((u2_h (by decide)).trans (u2_same _ _ _ _)).trans (by rw [ht5, hu5]; unfold lfT; rw [tn_nI (by omega), tn_nI (by omega)]; exact congrArg nI (by omega))⟩, (fun k i h1 h2 => by simp only [u2]; repeat (rw [if_neg (by omega)]))⟩) rfl d_MO_readPerson_227
                  · try unfold rng at c_21
                    rw [nI_tI (by omega)] at c_21
                    have hnq2 : q + 2 < n → ¬ gos cq (q + 2) = true := fun _ => by rw [gos_2q hm hq, ht5, hu5, sec_tu (by omega) (by omega) (by omega) (by omega)]; omega
                    refine lv_iconst (v := nI 0) hx hb d_MO_readPerson_214 (by decide) ?_
                    exact W_z hc hw hr hlocks (⟨rfl, Or.inr ⟨rfl, q + 2, by omega, by omega, by omega, gup (gup hg hgq0) hgq1, hnq2, ((u2_h (by decide)).trans (u2_same _ _ _ _)).trans (congrArg nI (by omega))⟩, (fun k i h1 h2 => by simp only [u2]; repeat (rw [if_neg (by omega)]))⟩) rfl d_MO_readPerson_215
                · try unfold rng at c_20
                  have hnq2 : q + 2 < n → ¬ gos cq (q + 2) = true := fun _ => by rw [gos_2q hm hq]; exact sec_no c_20
                  refine lv_iconst (v := nI 0) hx hb d_MO_readPerson_168 (by decide) ?_
                  exact W_z hc hw hr hlocks (⟨rfl, Or.inr ⟨rfl, q + 2, by omega, by omega, by omega, gup (gup hg hgq0) hgq1, hnq2, (u2_same _ _ _ _).trans (congrArg nI (by omega))⟩, (fun k i h1 h2 => by simp only [u2]; repeat (rw [if_neg (by omega)]))⟩) rfl d_MO_readPerson_169
            · try unfold rng at c_18
              have hnq1 : q + 1 < n → ¬ gos cq (q + 1) = true := fun _ => by rw [gos_1q hm hq, decide_eq_true_eq]; exact c_18
              refine lv_iconst (v := nI 0) hx hb d_MO_readPerson_116 (by decide) ?_
              exact W_z hc hw hr hlocks (⟨rfl, Or.inr ⟨rfl, q + 1, by omega, by omega, by omega, gup hg hgq0, hnq1, (u2_same _ _ _ _).trans (congrArg nI (by omega))⟩, (fun k i h1 h2 => by simp only [u2]; repeat (rw [if_neg (by omega)]))⟩) rfl d_MO_readPerson_117
        · exact absurd c_16 (by decide)
    · have hgq0 : gos cq q = true := by rw [gos_0q hm hq, decide_eq_true_eq]; omega
      have hkd : kdT (cq q) = 0 := by unfold kdT; rw [if_pos c_6]
      refine lv_iconst (v := nI 0) hx hb d_MO_readPerson_36 (by decide) ?_
      refine lv_goto (tgt := 62) hx hb d_MO_readPerson_37 (by decide) ?_
      refine r_iast hc hw (h := 64) (n := 6) (i := mm) (fun _ => rfl) (by omega) (by omega) (by decide) d_MO_readPerson_62 (fun H locs hw => ?_)
      refine lv_aload_n hx hb d_MO_readPerson_63 rfl (lv_at hl 1 rfl) ?_
      refine gf_MO_25 hc hw d_MO_readPerson_64 ?_
      refine lv_aload_n hx hb d_MO_readPerson_67 rfl (lv_at hl 1 rfl) ?_
      refine gf_MO_104 hc hw d_MO_readPerson_68 (v := .int (nI mm)) (congrArg Value.int ((u2_h (by decide)).trans (h10))) ?_
      refine r_iald hc hw (h := 64) (n := 6) (i := mm) (fun _ => rfl) (by omega) (by omega) (by decide) d_MO_readPerson_71 (v := .int (nI 0)) (congrArg Value.int (u2_same _ _ _ _)) ?_
      refine lv_bipush (v := (-9)) hx hb d_MO_readPerson_72 (by decide) ?_
      refine u_icmp_ne (tgt := 79) (X := 0) (Y := (-9)) hc (by decide) (by decide) d_MO_readPerson_74 (by decide) (fun c_22 => ?_) (fun c_22 => ?_)
      · refine lv_aload_n hx hb d_MO_readPerson_79 rfl (lv_at hl 1 rfl) ?_
        refine lv_dup hx hb d_MO_readPerson_80 rfl ?_
        refine gf_MO_98 hc hw d_MO_readPerson_81 (v := .int (nI (bs + q))) (congrArg Value.int ((u2_h (by decide)).trans (h9))) ?_
        refine lv_iconst (v := nI 1) hx hb d_MO_readPerson_84 (by decide) ?_
        refine q_iadd hc d_MO_readPerson_85 ?_
        refine pf_MO_98 hc hw d_MO_readPerson_86 (fun H locs hw => ?_)
        refine lv_aload_n hx hb d_MO_readPerson_89 rfl (lv_at hl 1 rfl) ?_
        refine gf_MO_98 hc hw d_MO_readPerson_90 (v := .int (nI ((bs + q) + 1))) (congrArg Value.int (u2_same _ _ _ _)) ?_
        refine lv_iload_n hx hb d_MO_readPerson_93 rfl (lv_at hl 2 rfl) ?_
        refine q_icmp_ge (tgt := 116) hc (by omega) (by omega) d_MO_readPerson_94 (by decide) (fun c_23 => ?_) (fun c_23 => ?_)
        · have hnq1 : q + 1 < n → ¬ gos cq (q + 1) = true := fun h => absurd h (by omega)
          refine lv_iconst (v := nI 0) hx hb d_MO_readPerson_116 (by decide) ?_
          exact W_z hc hw hr hlocks (⟨rfl, Or.inr ⟨rfl, q + 1, by omega, by omega, by omega, gup hg hgq0, hnq1, (u2_same _ _ _ _).trans (congrArg nI (by omega))⟩, (fun k i h1 h2 => by simp only [u2]; repeat (rw [if_neg (by omega)]))⟩) rfl d_MO_readPerson_117
        · refine lv_aload_n hx hb d_MO_readPerson_97 rfl (lv_at hl 1 rfl) ?_
          refine gf_MO_16 hc hw d_MO_readPerson_98 ?_
          refine lv_aload_n hx hb d_MO_readPerson_101 rfl (lv_at hl 1 rfl) ?_
          refine gf_MO_98 hc hw d_MO_readPerson_102 (v := .int (nI ((bs + q) + 1))) (congrArg Value.int (u2_same _ _ _ _)) ?_
          refine r_iald hc hw (h := 61) (n := 160) (i := (bs + q) + 1) (fun _ => rfl) (by omega) (by omega) (by decide) d_MO_readPerson_105 (v := .int (cq (q + 1))) (congrArg Value.int ((u2_h (by decide)).trans ((u2_h (by decide)).trans (hcc (q + 1) (by omega))))) ?_
          refine lv_bipush (v := nI 48) hx hb d_MO_readPerson_106 (by decide) ?_
          refine lv_bipush (v := nI 52) hx hb d_MO_readPerson_108 (by decide) ?_
          refine kRS hc hw lk_MO_76 (As := [.int (cq (q + 1)), .int (nI 48), .int (nI 52)]) (rest := []) (c_MO_within l D g _ (cq (q + 1)) (nI 48) (nI 52) 48 52 (by decide) (by decide)) ⟨Nat.le_of_ble_eq_true rfl, Nat.le_of_ble_eq_true rfl⟩ ⟨Nat.le_refl _, Nat.le_refl _⟩ rfl hl rfl (Nat.le_of_ble_eq_true rfl) d_MO_readPerson_110 ?_
          refine b_if_ne (tgt := 118) hc d_MO_readPerson_113 (by decide) (fun c_24 => ?_) (fun c_24 => ?_)
          · try unfold rng at c_24
            have hgq1 : gos cq (q + 1) = true := by rw [gos_1q hm hq, decide_eq_true_eq]; exact c_24
            obtain ⟨t5, ht5, ht5_1, ht5_2⟩ := rng_nat (x := cq (q + 1)) (a := 48) (b := 52) c_24 (by decide)
            refine lv_aload_n hx hb d_MO_readPerson_118 rfl (lv_at hl 1 rfl) ?_
            refine gf_MO_16 hc hw d_MO_readPerson_119 ?_
            refine lv_aload_n hx hb d_MO_readPerson_122 rfl (lv_at hl 1 rfl) ?_
            refine gf_MO_98 hc hw d_MO_readPerson_123 (v := .int (nI ((bs + q) + 1))) (congrArg Value.int (u2_same _ _ _ _)) ?_
            refine r_iald hc hw (h := 61) (n := 160) (i := (bs + q) + 1) (fun _ => rfl) (by omega) (by omega) (by decide) d_MO_readPerson_126 (v := .int (nI t5)) (congrArg Value.int (((u2_h (by decide)).trans ((u2_h (by decide)).trans (hcc (q + 1) (by omega)))).trans ht5)) ?_
            refine lv_bipush (v := nI 48) hx hb d_MO_readPerson_127 (by decide) ?_
            refine q_isub hc (by omega) d_MO_readPerson_129 ?_
            refine lv_istore_n (lv' := [(3, .int (nI (t5 - 48))), (2, .int (cq q)), (0, .ref (wad g 58)), (1, .int (nI (bs + n)))]) hx hb d_MO_readPerson_130 rfl hl (by decide) rfl (fun ls hl => ?_)
            refine lv_aload_n hx hb d_MO_readPerson_131 rfl (lv_at hl 2 rfl) ?_
            refine lv_dup hx hb d_MO_readPerson_132 rfl ?_
            refine gf_MO_98 hc hw d_MO_readPerson_133 (v := .int (nI ((bs + q) + 1))) (congrArg Value.int (u2_same _ _ _ _)) ?_
            refine lv_iconst (v := nI 1) hx hb d_MO_readPerson_136 (by decide) ?_
            refine q_iadd hc d_MO_readPerson_137 ?_
            refine pf_MO_98 hc hw d_MO_readPerson_138 (fun H locs hw => ?_)
            refine lv_aload_n hx hb d_MO_readPerson_141 rfl (lv_at hl 2 rfl) ?_
            refine gf_MO_98 hc hw d_MO_readPerson_142 (v := .int (nI (((bs + q) + 1) + 1))) (congrArg Value.int (u2_same _ _ _ _)) ?_
            refine lv_iload_n hx hb d_MO_readPerson_145 rfl (lv_at hl 3 rfl) ?_
            refine q_icmp_ge (tgt := 168) hc (by omega) (by omega) d_MO_readPerson_146 (by decide) (fun c_25 => ?_) (fun c_25 => ?_)
            · have hnq2 : q + 2 < n → ¬ gos cq (q + 2) = true := fun h => absurd h (by omega)
              refine lv_iconst (v := nI 0) hx hb d_MO_readPerson_168 (by decide) ?_
              exact W_z hc hw hr hlocks (⟨rfl, Or.inr ⟨rfl, q + 2, by omega, by omega, by omega, gup (gup hg hgq0) hgq1, hnq2, (u2_same _ _ _ _).trans (congrArg nI (by omega))⟩, (fun k i h1 h2 => by simp only [u2]; repeat (rw [if_neg (by omega)]))⟩) rfl d_MO_readPerson_169
            · refine lv_aload_n hx hb d_MO_readPerson_149 rfl (lv_at hl 2 rfl) ?_
              refine gf_MO_16 hc hw d_MO_readPerson_150 ?_
              refine lv_aload_n hx hb d_MO_readPerson_153 rfl (lv_at hl 2 rfl) ?_
              refine gf_MO_98 hc hw d_MO_readPerson_154 (v := .int (nI (((bs + q) + 1) + 1))) (congrArg Value.int (u2_same _ _ _ _)) ?_
              refine r_iald hc hw (h := 61) (n := 160) (i := ((bs + q) + 1) + 1) (fun _ => rfl) (by omega) (by omega) (by decide) d_MO_readPerson_157 (v := .int (cq (q + 2))) (congrArg Value.int ((u2_h (by decide)).trans ((u2_h (by decide)).trans ((u2_h (by decide)).trans (hcc (q + 2) (by omega)))))) ?_
              refine lv_bipush (v := nI 48) hx hb d_MO_readPerson_158 (by decide) ?_
              refine lv_bipush (v := nI 57) hx hb d_MO_readPerson_160 (by decide) ?_
              refine kRS hc hw lk_MO_76 (As := [.int (cq (q + 2)), .int (nI 48), .int (nI 57)]) (rest := []) (c_MO_within l D g _ (cq (q + 2)) (nI 48) (nI 57) 48 57 (by decide) (by decide)) ⟨Nat.le_of_ble_eq_true rfl, Nat.le_of_ble_eq_true rfl⟩ ⟨Nat.le_refl _, Nat.le_refl _⟩ rfl hl rfl (Nat.le_of_ble_eq_true rfl) d_MO_readPerson_162 ?_
              refine b_if_ne (tgt := 170) hc d_MO_readPerson_165 (by decide) (fun c_26 => ?_) (fun c_26 => ?_)
              · try unfold rng at c_26
                obtain ⟨u5, hu5, hu5_1, hu5_2⟩ := rng_nat (x := cq (q + 2)) (a := 48) (b := 57) c_26 (by decide)
                refine lv_aload_n hx hb d_MO_readPerson_170 rfl (lv_at hl 2 rfl) ?_
                refine gf_MO_28 hc hw d_MO_readPerson_171 ?_
                refine lv_aload_n hx hb d_MO_readPerson_174 rfl (lv_at hl 2 rfl) ?_
                refine gf_MO_104 hc hw d_MO_readPerson_175 (v := .int (nI mm)) (congrArg Value.int ((u2_i (by decide)).trans ((u2_i (by decide)).trans ((u2_h (by decide)).trans (h10))))) ?_
                refine lv_bipush (v := nI 10) hx hb d_MO_readPerson_178 (by decide) ?_
                refine lv_iload_n hx hb d_MO_readPerson_180 rfl (lv_at hl 0 rfl) ?_
                refine q_imul hc d_MO_readPerson_181 ?_
                refine lv_aload_n hx hb d_MO_readPerson_182 rfl (lv_at hl 2 rfl) ?_
                refine gf_MO_16 hc hw d_MO_readPerson_183 ?_
                refine lv_aload_n hx hb d_MO_readPerson_186 rfl (lv_at hl 2 rfl) ?_
                refine gf_MO_98 hc hw d_MO_readPerson_187 (v := .int (nI (((bs + q) + 1) + 1))) (congrArg Value.int (u2_same _ _ _ _)) ?_
                refine r_iald hc hw (h := 61) (n := 160) (i := ((bs + q) + 1) + 1) (fun _ => rfl) (by omega) (by omega) (by decide) d_MO_readPerson_190 (v := .int (nI u5)) (congrArg Value.int (((u2_h (by decide)).trans ((u2_h (by decide)).trans ((u2_h (by decide)).trans (hcc (q + 2) (by omega))))).trans hu5)) ?_
                refine q_iadd hc d_MO_readPerson_191 ?_
                refine lv_bipush (v := nI 48) hx hb d_MO_readPerson_192 (by decide) ?_
                refine q_isub hc (by omega) d_MO_readPerson_194 ?_
                refine r_iast hc hw (h := 65) (n := 6) (i := mm) (fun _ => rfl) (by omega) (by omega) (by decide) d_MO_readPerson_195 (fun H locs hw => ?_)
                refine lv_aload_n hx hb d_MO_readPerson_196 rfl (lv_at hl 2 rfl) ?_
                refine gf_MO_28 hc hw d_MO_readPerson_197 ?_
                refine lv_aload_n hx hb d_MO_readPerson_200 rfl (lv_at hl 2 rfl) ?_
                refine gf_MO_104 hc hw d_MO_readPerson_201 (v := .int (nI mm)) (congrArg Value.int ((u2_h (by decide)).trans ((u2_i (by decide)).trans ((u2_i (by decide)).trans ((u2_h (by decide)).trans (h10)))))) ?_
                refine r_iald hc hw (h := 65) (n := 6) (i := mm) (fun _ => rfl) (by omega) (by omega) (by decide) d_MO_readPerson_204 (v := .int (nI (((10 * (t5 - 48)) + u5) - 48))) (congrArg Value.int (u2_same _ _ _ _)) ?_
                refine lv_iconst (v := nI 1) hx hb d_MO_readPerson_205 (by decide) ?_
                refine lv_bipush (v := nI 40) hx hb d_MO_readPerson_206 (by decide) ?_
                refine kRS hc hw lk_MO_76 (As := [.int (nI (((10 * (t5 - 48)) + u5) - 48)), .int (nI 1), .int (nI 40)]) (rest := []) (c_MO_within l D g _ (nI (((10 * (t5 - 48)) + u5) - 48)) (nI 1) (nI 40) 1 40 (by decide) (by decide)) ⟨Nat.le_of_ble_eq_true rfl, Nat.le_of_ble_eq_true rfl⟩ ⟨Nat.le_refl _, Nat.le_refl _⟩ rfl hl rfl (Nat.le_of_ble_eq_true rfl) d_MO_readPerson_208 ?_
                refine b_if_ne (tgt := 216) hc d_MO_readPerson_211 (by decide) (fun c_27 => ?_) (fun c_27 => ?_)
                · try unfold rng at c_27
                  rw [nI_tI (by omega)] at c_27
                  have hgq2 : gos cq (q + 2) = true := by rw [gos_2q hm hq, ht5, hu5, sec_tu (by omega) (by omega) (by omega) (by omega)]; omega
                  refine lv_aload_n hx hb d_MO_readPerson_216 rfl (lv_at hl 2 rfl) ?_
                  refine lv_dup hx hb d_MO_readPerson_217 rfl ?_
                  refine gf_MO_98 hc hw d_MO_readPerson_218 (v := .int (nI (((bs + q) + 1) + 1))) (congrArg Value.int ((u2_h (by decide)).trans (u2_same _ _ _ _))) ?_
                  refine lv_iconst (v := nI 1) hx hb d_MO_readPerson_221 (by decide) ?_
                  refine q_iadd hc d_MO_readPerson_222 ?_
                  refine pf_MO_98 hc hw d_MO_readPerson_223 (fun H locs hw => ?_)
                  refine lv_iconst (v := nI 1) hx hb d_MO_readPerson_226 (by decide) ?_
                  exact W_z hc hw hr hlocks (⟨rfl, Or.inl ⟨rfl, by omega, gup (gup (gup hg hgq0) hgq1) hgq2, (u2_same _ _ _ _).trans (congrArg nI (by omega)), ((u2_h (by decide)).trans ((u2_h (by decide)).trans ((u2_h (by decide)).trans ((u2_h (by decide)).trans (u2_same _ _ _ _))))).trans (by rw [hkd]), ((u2_h (by decide)).trans (u2_same _ _ _ _)).trans (by rw [ht5, hu5]; unfold lfT; rw [tn_nI (by omega), tn_nI (by omega)]; exact congrArg nI (by omega))⟩, (fun k i h1 h2 => by simp only [u2]; repeat (rw [if_neg (by omega)]))⟩) rfl d_MO_readPerson_227
                · try unfold rng at c_27
                  rw [nI_tI (by omega)] at c_27
                  have hnq2 : q + 2 < n → ¬ gos cq (q + 2) = true := fun _ => by rw [gos_2q hm hq, ht5, hu5, sec_tu (by omega) (by omega) (by omega) (by omega)]; omega
                  refine lv_iconst (v := nI 0) hx hb d_MO_readPerson_214 (by decide) ?_
                  exact W_z hc hw hr hlocks (⟨rfl, Or.inr ⟨rfl, q + 2, by omega, by omega, by omega, gup (gup hg hgq0) hgq1, hnq2, ((u2_h (by decide)).trans (u2_same _ _ _ _)).trans (congrArg nI (by omega))⟩, (fun k i h1 h2 => by simp only [u2]; repeat (rw [if_neg (by omega)]))⟩) rfl d_MO_readPerson_215
              · try unfold rng at c_26
                have hnq2 : q + 2 < n → ¬ gos cq (q + 2) = true := fun _ => by rw [gos_2q hm hq]; exact sec_no c_26
                refine lv_iconst (v := nI 0) hx hb d_MO_readPerson_168 (by decide) ?_
                exact W_z hc hw hr hlocks (⟨rfl, Or.inr ⟨rfl, q + 2, by omega, by omega, by omega, gup (gup hg hgq0) hgq1, hnq2, (u2_same _ _ _ _).trans (congrArg nI (by omega))⟩, (fun k i h1 h2 => by simp only [u2]; repeat (rw [if_neg (by omega)]))⟩) rfl d_MO_readPerson_169
          · try unfold rng at c_24
            have hnq1 : q + 1 < n → ¬ gos cq (q + 1) = true := fun _ => by rw [gos_1q hm hq, decide_eq_true_eq]; exact c_24
            refine lv_iconst (v := nI 0) hx hb d_MO_readPerson_116 (by decide) ?_
            exact W_z hc hw hr hlocks (⟨rfl, Or.inr ⟨rfl, q + 1, by omega, by omega, by omega, gup hg hgq0, hnq1, (u2_same _ _ _ _).trans (congrArg nI (by omega))⟩, (fun k i h1 h2 => by simp only [u2]; repeat (rw [if_neg (by omega)]))⟩) rfl d_MO_readPerson_117
      · exact absurd c_22 (by decide)
theorem u2_ij2 {F : wF} {h i k j : Nat} {x : Int32} (hn : ¬ (k = h ∧ j = i)) : u2 F h i x k j = F k j := by simp only [u2]; rw [if_neg hn]
set_option maxHeartbeats 4000000 in
theorem c_MO_readPost (l : Launch) (D : va_G) (g : wG) (F : wF) (cq : Nat → Int32) (bs n : Nat) (hn : bs + n ≤ 160) (hcc : ∀ a, a < n → F 61 (bs + a) = cq a) (h9 : F 58 9 = nI bs) : CW l y_MO_readPost b_MO_readPost 2 (Option.some Jvm.ClassFile.FieldType.boolean) 2 0 0 D g F [.ref (wad g 58), .int (nI (bs + n))] (fun v g2 u => g = g2 ∧ ((v = some (.int (nI 1)) ∧ ff cq n = none ∧ ∃ mm, 2 ≤ mm ∧ mm ≤ 6 ∧ n = 1 + 3 * mm ∧ u 58 10 = nI mm ∧ ∀ p, p < mm → u 64 p = nI (kdT (cq (1 + 3 * p))) ∧ u 65 p = nI (lfT (cq (1 + 3 * p + 1)) (cq (1 + 3 * p + 2)))) ∨ (v = some (.int (nI 0)) ∧ ∃ a, ff cq n = some a ∧ a ≤ n ∧ u 58 9 = nI (bs + a))) ∧ ∀ k i, ¬ (k = 58 ∧ (i = 9 ∨ i = 10)) → k ≠ 64 → k ≠ 65 → u k i = F k i) := by
  refine CW.start rfl (Nat.le_of_ble_eq_true rfl) ?_
  intro p e s m args below meth c A ls hc hr hlocks hw hl
  have hl : lv_has ls 2 [(0, .ref (wad g 58)), (1, .int (nI (bs + n)))] := hl
  have hx := hc.1
  have hb := hc.2.1
  refine lv_aload_n hx hb d_MO_readPost_0 rfl (lv_at hl 0 rfl) ?_
  refine gf_MO_98 hc hw d_MO_readPost_1 (v := .int (nI bs)) (congrArg Value.int (h9)) ?_
  refine lv_iload_n hx hb d_MO_readPost_4 rfl (lv_at hl 1 rfl) ?_
  refine q_icmp_ge (tgt := 22) hc (by omega) (by omega) d_MO_readPost_5 (by decide) (fun c_1 => ?_) (fun c_1 => ?_)
  · have hff0 : ff cq n = some 0 := by rw [show n = 0 by omega]; exact ff_n (fun a ha => absurd ha (Nat.not_lt_zero a)) (by omega)
    refine lv_iconst (v := nI 0) hx hb d_MO_readPost_22 (by decide) ?_
    exact W_z hc hw hr hlocks (⟨rfl, Or.inr ⟨rfl, 0, hff0, by omega, h9⟩, fun _ _ _ _ _ => rfl⟩) rfl d_MO_readPost_23
  · refine lv_aload_n hx hb d_MO_readPost_8 rfl (lv_at hl 0 rfl) ?_
    refine gf_MO_16 hc hw d_MO_readPost_9 ?_
    refine lv_aload_n hx hb d_MO_readPost_12 rfl (lv_at hl 0 rfl) ?_
    refine gf_MO_98 hc hw d_MO_readPost_13 (v := .int (nI bs)) (congrArg Value.int (h9)) ?_
    refine r_iald hc hw (h := 61) (n := 160) (i := bs) (fun _ => rfl) (by omega) (by omega) (by decide) d_MO_readPost_16 (v := .int (cq 0)) (congrArg Value.int (hcc 0 (by omega))) ?_
    refine lv_bipush (v := nI 112) hx hb d_MO_readPost_17 (by decide) ?_
    refine u_icmp_eq (tgt := 24) (X := (cq 0).toInt) (Y := 112) hc (rfl) (by decide) d_MO_readPost_19 (by decide) (fun c_2 => ?_) (fun c_2 => ?_)
    · have hg0 : gos cq 0 = true := by unfold gos; rw [if_pos rfl, decide_eq_true_eq]; exact c_2
      refine lv_aload_n hx hb d_MO_readPost_24 rfl (lv_at hl 0 rfl) ?_
      refine lv_dup hx hb d_MO_readPost_25 rfl ?_
      refine gf_MO_98 hc hw d_MO_readPost_26 (v := .int (nI bs)) (congrArg Value.int (h9)) ?_
      refine lv_iconst (v := nI 1) hx hb d_MO_readPost_29 (by decide) ?_
      refine q_iadd hc d_MO_readPost_30 ?_
      refine pf_MO_98 hc hw d_MO_readPost_31 (fun H locs hw => ?_)
      refine lv_aload_n hx hb d_MO_readPost_34 rfl (lv_at hl 0 rfl) ?_
      refine lv_iconst (v := nI 0) hx hb d_MO_readPost_35 (by decide) ?_
      refine pf_MO_104 hc hw d_MO_readPost_36 (fun H locs hw => ?_)
      have loop_39 : ∀ (n_39 : Nat) (mm : Nat) (F1 : wF) (H : Heap) (locs : List Loc) (ls : Array Slot), (6 - mm) < n_39 → (mm ≤ 6) → (1 + 3 * mm ≤ n) → (∀ a, a < 1 + 3 * mm → gos cq a = true) → (F1 58 9 = nI (bs + (1 + 3 * mm))) → (F1 58 10 = nI mm) → (∀ p, p < mm → F1 64 p = nI (kdT (cq (1 + 3 * p))) ∧ F1 65 p = nI (lfT (cq (1 + 3 * p + 1)) (cq (1 + 3 * p + 2)))) → (∀ k i, ¬ (k = 58 ∧ (i = 9 ∨ i = 10)) → k ≠ 64 → k ≠ 65 → F1 k i = F k i) → Wd D g F1 A s.heap H locs s → lv_has ls 2 [(0, .ref (wad g 58)), (1, .int (nI (bs + n)))] → W p l e (rmc 2 0 0) s m args below meth c H locs 0 0 (MQ below (Qw (fun v g2 u => g = g2 ∧ ((v = some (.int (nI 1)) ∧ ff cq n = none ∧ ∃ mm, 2 ≤ mm ∧ mm ≤ 6 ∧ n = 1 + 3 * mm ∧ u 58 10 = nI mm ∧ ∀ p, p < mm → u 64 p = nI (kdT (cq (1 + 3 * p))) ∧ u 65 p = nI (lfT (cq (1 + 3 * p + 1)) (cq (1 + 3 * p + 2)))) ∨ (v = some (.int (nI 0)) ∧ ∃ a, ff cq n = some a ∧ a ≤ n ∧ u 58 9 = nI (bs + a))) ∧ ∀ k i, ¬ (k = 58 ∧ (i = 9 ∨ i = 10)) → k ≠ 64 → k ≠ 65 → u k i = F k i) (Bw D A) A) args s 0 0 A) (F0 m 39 ls []) := by
        intro n_39
        induction n_39 with
        | zero => intro mm F1 H locs ls hm; exact absurd hm (Nat.not_lt_zero _)
        | succ n_39 ih_39 =>
          intro mm F1 H locs ls hm_39 hm6 hqn hgm h9m h10m hkk zhF1 hw hl
          refine lv_aload_n hx hb d_MO_readPost_39 rfl (lv_at hl 0 rfl) ?_
          refine gf_MO_104 hc hw d_MO_readPost_40 (v := .int (nI mm)) (congrArg Value.int (h10m)) ?_
          refine lv_iconst (v := nI 2) hx hb d_MO_readPost_43 (by decide) ?_
          refine q_icmp_lt (tgt := 55) hc (by omega) (by omega) d_MO_readPost_44 (by decide) (fun c_3 => ?_) (fun c_3 => ?_)
          · refine lv_aload_n hx hb d_MO_readPost_55 rfl (lv_at hl 0 rfl) ?_
            refine gf_MO_104 hc hw d_MO_readPost_56 (v := .int (nI mm)) (congrArg Value.int (h10m)) ?_
            refine lv_bipush (v := nI 6) hx hb d_MO_readPost_59 (by decide) ?_
            refine q_icmp_eq (tgt := 72) hc (by omega) (by omega) d_MO_readPost_61 (by decide) (fun c_4 => ?_) (fun c_4 => ?_)
            · refine lv_iconst (v := nI 0) hx hb d_MO_readPost_72 (by decide) ?_
              exact W_z hc hw hr hlocks (⟨rfl, Or.inr ⟨rfl, 1 + 3 * mm, ff_at (by omega) hgm (gos_6q (by omega)), by omega, h9m⟩, zhF1⟩) rfl d_MO_readPost_73
            · refine lv_aload_n hx hb d_MO_readPost_64 rfl (lv_at hl 0 rfl) ?_
              refine lv_iload_n hx hb d_MO_readPost_65 rfl (lv_at hl 1 rfl) ?_
              refine kWV hc hw lk_MO_113 (h := 58) (As := [.int (nI (bs + n))]) (rest := []) (c_MO_readPerson l D g _ cq bs mm n (1 + 3 * mm) (by omega) rfl hqn hn (fun a ha => (zhF1 61 _ (by omega) (by decide) (by decide)).trans (hcc a ha)) h9m h10m hgm) (rc_MO hw) ⟨Nat.le_of_ble_eq_true rfl, Nat.le_of_ble_eq_true rfl⟩ ⟨Nat.le_refl _, Nat.le_refl _⟩ rfl hl rfl (Nat.le_of_ble_eq_true rfl) d_MO_readPost_66 (fun v_5 g_6 F_7 H locs zhp_8 hw => ?_)
              obtain ⟨rfl, hcase, hrf⟩ := zhp_8
              rcases hcase with ⟨rfl, hr1, hr2, hr3, hr4, hr5⟩ | ⟨rfl, za, hr1, hr2, hr3, hr4, hr5, hr6⟩
              · refine q_if_ne (tgt := 74) hc (by omega) d_MO_readPost_69 (by decide) (fun c_9 => ?_) (fun c_9 => ?_)
                · refine lv_aload_n hx hb d_MO_readPost_74 rfl (lv_at hl 0 rfl) ?_
                  refine lv_dup hx hb d_MO_readPost_75 rfl ?_
                  refine gf_MO_104 hc hw d_MO_readPost_76 (v := .int (nI mm)) (congrArg Value.int ((hrf 58 10 (by omega) (by omega)).trans h10m)) ?_
                  refine lv_iconst (v := nI 1) hx hb d_MO_readPost_79 (by decide) ?_
                  refine q_iadd hc d_MO_readPost_80 ?_
                  refine pf_MO_104 hc hw d_MO_readPost_81 (fun H locs hw => ?_)
                  refine lv_goto (tgt := 39) hx hb d_MO_readPost_84 (by decide) ?_
                  exact ih_39 (mm + 1) _ _ _ _ (by omega) (by omega) (by omega) (fun a ha => hr2 a (by omega)) ((u2_i (by decide)).trans (hr3.trans (congrArg nI (by omega)))) (u2_same _ _ _ _) (fun p hp => by rw [u2_h (by decide), u2_h (by decide)]; rcases (show p < mm ∨ p = mm by omega) with e | e; (rw [hrf 64 p (by omega) (by omega), hrf 65 p (by omega) (by omega)]; exact hkk p e); (rw [e]; exact ⟨hr4, hr5⟩)) (fun k i h1 h2 h3 => by rw [u2_ij2 (by omega)]; rw [hrf k i (by omega) (by omega)]; exact zhF1 k i h1 h2 h3) hw (lv_sub hl [0, 1] rfl)
                · exact absurd c_9 (by first | omega | decide)
              · refine q_if_ne (tgt := 74) hc (by omega) d_MO_readPost_69 (by decide) (fun c_10 => ?_) (fun c_10 => ?_)
                · exact absurd c_10 (by first | omega | decide)
                · refine lv_iconst (v := nI 0) hx hb d_MO_readPost_72 (by decide) ?_
                  exact W_z hc hw hr hlocks (⟨rfl, Or.inr ⟨rfl, za, (by by_cases hz : za < n; exact ff_at hz hr4 (hr5 hz); (rw [show za = n by omega] at hr4 ⊢; exact ff_n hr4 (by omega))), hr2, hr6⟩, fun k i h1 h2 h3 => (hrf k i (by omega) (by omega)).trans (zhF1 k i h1 h2 h3)⟩) rfl d_MO_readPost_73
          · refine lv_aload_n hx hb d_MO_readPost_47 rfl (lv_at hl 0 rfl) ?_
            refine gf_MO_98 hc hw d_MO_readPost_48 (v := .int (nI (bs + (1 + 3 * mm)))) (congrArg Value.int (h9m)) ?_
            refine lv_iload_n hx hb d_MO_readPost_51 rfl (lv_at hl 1 rfl) ?_
            refine q_icmp_ge (tgt := 87) hc (by omega) (by omega) d_MO_readPost_52 (by decide) (fun c_11 => ?_) (fun c_11 => ?_)
            · refine lv_iconst (v := nI 1) hx hb d_MO_readPost_87 (by decide) ?_
              exact W_z hc hw hr hlocks (⟨rfl, Or.inl ⟨rfl, ff_y (fun a ha => hgm a (by omega)) (by omega), mm, by omega, by omega, by omega, h10m, hkk⟩, zhF1⟩) rfl d_MO_readPost_88
            · refine lv_aload_n hx hb d_MO_readPost_55 rfl (lv_at hl 0 rfl) ?_
              refine gf_MO_104 hc hw d_MO_readPost_56 (v := .int (nI mm)) (congrArg Value.int (h10m)) ?_
              refine lv_bipush (v := nI 6) hx hb d_MO_readPost_59 (by decide) ?_
              refine q_icmp_eq (tgt := 72) hc (by omega) (by omega) d_MO_readPost_61 (by decide) (fun c_12 => ?_) (fun c_12 => ?_)
              · refine lv_iconst (v := nI 0) hx hb d_MO_readPost_72 (by decide) ?_
                exact W_z hc hw hr hlocks (⟨rfl, Or.inr ⟨rfl, 1 + 3 * mm, ff_at (by omega) hgm (gos_6q (by omega)), by omega, h9m⟩, zhF1⟩) rfl d_MO_readPost_73
              · refine lv_aload_n hx hb d_MO_readPost_64 rfl (lv_at hl 0 rfl) ?_
                refine lv_iload_n hx hb d_MO_readPost_65 rfl (lv_at hl 1 rfl) ?_
                refine kWV hc hw lk_MO_113 (h := 58) (As := [.int (nI (bs + n))]) (rest := []) (c_MO_readPerson l D g _ cq bs mm n (1 + 3 * mm) (by omega) rfl hqn hn (fun a ha => (zhF1 61 _ (by omega) (by decide) (by decide)).trans (hcc a ha)) h9m h10m hgm) (rc_MO hw) ⟨Nat.le_of_ble_eq_true rfl, Nat.le_of_ble_eq_true rfl⟩ ⟨Nat.le_refl _, Nat.le_refl _⟩ rfl hl rfl (Nat.le_of_ble_eq_true rfl) d_MO_readPost_66 (fun v_13 g_14 F_15 H locs zhp_16 hw => ?_)
                obtain ⟨rfl, hcase, hrf⟩ := zhp_16
                rcases hcase with ⟨rfl, hr1, hr2, hr3, hr4, hr5⟩ | ⟨rfl, za, hr1, hr2, hr3, hr4, hr5, hr6⟩
                · refine q_if_ne (tgt := 74) hc (by omega) d_MO_readPost_69 (by decide) (fun c_17 => ?_) (fun c_17 => ?_)
                  · refine lv_aload_n hx hb d_MO_readPost_74 rfl (lv_at hl 0 rfl) ?_
                    refine lv_dup hx hb d_MO_readPost_75 rfl ?_
                    refine gf_MO_104 hc hw d_MO_readPost_76 (v := .int (nI mm)) (congrArg Value.int ((hrf 58 10 (by omega) (by omega)).trans h10m)) ?_
                    refine lv_iconst (v := nI 1) hx hb d_MO_readPost_79 (by decide) ?_
                    refine q_iadd hc d_MO_readPost_80 ?_
                    refine pf_MO_104 hc hw d_MO_readPost_81 (fun H locs hw => ?_)
                    refine lv_goto (tgt := 39) hx hb d_MO_readPost_84 (by decide) ?_
                    exact ih_39 (mm + 1) _ _ _ _ (by omega) (by omega) (by omega) (fun a ha => hr2 a (by omega)) ((u2_i (by decide)).trans (hr3.trans (congrArg nI (by omega)))) (u2_same _ _ _ _) (fun p hp => by rw [u2_h (by decide), u2_h (by decide)]; rcases (show p < mm ∨ p = mm by omega) with e | e; (rw [hrf 64 p (by omega) (by omega), hrf 65 p (by omega) (by omega)]; exact hkk p e); (rw [e]; exact ⟨hr4, hr5⟩)) (fun k i h1 h2 h3 => by rw [u2_ij2 (by omega)]; rw [hrf k i (by omega) (by omega)]; exact zhF1 k i h1 h2 h3) hw (lv_sub hl [0, 1] rfl)
                  · exact absurd c_17 (by first | omega | decide)
                · refine q_if_ne (tgt := 74) hc (by omega) d_MO_readPost_69 (by decide) (fun c_18 => ?_) (fun c_18 => ?_)
                  · exact absurd c_18 (by first | omega | decide)
                  · refine lv_iconst (v := nI 0) hx hb d_MO_readPost_72 (by decide) ?_
                    exact W_z hc hw hr hlocks (⟨rfl, Or.inr ⟨rfl, za, (by by_cases hz : za < n; exact ff_at hz hr4 (hr5 hz); (rw [show za = n by omega] at hr4 ⊢; exact ff_n hr4 (by omega))), hr2, hr6⟩, fun k i h1 h2 h3 => (hrf k i (by omega) (by omega)).trans (zhF1 k i h1 h2 h3)⟩) rfl d_MO_readPost_73
      exact loop_39 _ 0 _ _ _ _ (Nat.lt_succ_self _) (by omega) (by omega) (gup (fun a ha => absurd ha (Nat.not_lt_zero a)) hg0) ((u2_i (by decide)).trans (u2_same _ _ _ _)) (u2_same _ _ _ _) (fun p hp => absurd hp (Nat.not_lt_zero p)) ((fun k i h1 h2 h3 => by simp only [u2]; repeat (rw [if_neg (by omega)]))) hw (lv_sub hl [0, 1] rfl)
    · have hff0 : ff cq n = some 0 := ff_at (by omega) (fun a ha => absurd ha (Nat.not_lt_zero a)) (by unfold gos; rw [if_pos rfl, decide_eq_true_eq]; exact c_2)
      refine lv_iconst (v := nI 0) hx hb d_MO_readPost_22 (by decide) ?_
      exact W_z hc hw hr hlocks (⟨rfl, Or.inr ⟨rfl, 0, hff0, by omega, h9⟩, fun _ _ _ _ _ => rfl⟩) rfl d_MO_readPost_23
