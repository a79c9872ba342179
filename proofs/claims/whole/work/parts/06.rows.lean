/-! ROWS over the world -/
theorem wt_row (g : wG) {k : Nat} (h : k < 4) (f : Nat → Int32) : wt g (2 * k + 2) f = eRW g k f := by
  rcases (show k = 0 ∨ k = 1 ∨ k = 2 ∨ k = 3 by omega) with rfl | rfl | rfl | rfl <;> rfl
theorem wt_cells (g : wG) {k : Nat} (h : k < 4) (f : Nat → Int32) : wt g (2 * k + 3) f = eI g 40 f := by
  rcases (show k = 0 ∨ k = 1 ∨ k = 2 ∨ k = 3 by omega) with rfl | rfl | rfl | rfl <;> rfl
theorem wt_tuC (g : wG) {k : Nat} (h : k < 8) (f : Nat → Int32) : wt g (25 + k) f = eI g 41 f := by
  rcases (show k = 0 ∨ k = 1 ∨ k = 2 ∨ k = 3 ∨ k = 4 ∨ k = 5 ∨ k = 6 ∨ k = 7 by omega) with rfl | rfl | rfl | rfl | rfl | rfl | rfl | rfl <;> rfl
theorem wt_tuI (g : wG) {k : Nat} (h : k < 2) (f : Nat → Int32) : wt g (34 + k) f = eI g 41 f := by
  rcases (show k = 0 ∨ k = 1 by omega) with rfl | rfl <;> rfl
theorem wt_tuW (g : wG) {k : Nat} (h : k < 2) (f : Nat → Int32) : wt g (37 + k) f = eI g 41 f := by
  rcases (show k = 0 ∨ k = 1 by omega) with rfl | rfl <;> rfl
theorem wt_tuS (g : wG) {k : Nat} (h : k < 2) (f : Nat → Int32) : wt g (40 + k) f = eI g 41 f := by
  rcases (show k = 0 ∨ k = 1 by omega) with rfl | rfl <;> rfl
theorem wt_paC (g : wG) {k : Nat} (h : k < 6) (f : Nat → Int32) : wt g (46 + k) f = eI g 100 f := by
  rcases (show k = 0 ∨ k = 1 ∨ k = 2 ∨ k = 3 ∨ k = 4 ∨ k = 5 by omega) with rfl | rfl | rfl | rfl | rfl | rfl <;> rfl
theorem wt_paL (g : wG) {k : Nat} (h : k < 2) (f : Nat → Int32) : wt g (53 + k) f = eI g 100 f := by
  rcases (show k = 0 ∨ k = 1 by omega) with rfl | rfl <;> rfl
theorem wt_per (g : wG) (p : Nat) (f : Nat → Int32) : wt g (79 + p) f = eWR (wK g p) f := by
  have h : (wtL g)[79 + p]? = none := List.getElem?_eq_none (by show (wtL g).length ≤ 79 + p; exact Nat.le_add_right 79 p)
  unfold wt
  rw [h, Nat.add_sub_cancel_left]
theorem wrow_at {g : wG} {b n i : Nat} (h : i < n) : wrow g b n i = some (wad g (b + i)) := by simp [wrow, h]
theorem wrow_no {g : wG} {b n i : Nat} (h : n ≤ i) : wrow g b n i = none := by simp [wrow, Nat.not_lt.mpr h]
section WR
variable {p : Program} {l : Launch} {e : Env} {R : Room} {s : State} {m : MethodId} {args : Array Value} {below : List Frame} {meth : Method} {c : Code} {H : Heap} {locs : List Loc} {cells slots : Nat} {Q : State → Prop}
variable {cc : ByteArray} {pc : Nat} {ls : Array Slot} {lv : List (Nat × Value)} {rest st : List Value} {D : va_G} {A : Nat → Prop} {H0 : Heap} {nL : Nat} {own : String} {g : wG} {F : wF}
theorem r_iald (hc : CallFix p m c cc nL s args gws own) (hw : Wd D g F A H0 H locs s) {h n i : Nat} (he : ∀ f, wt g h f = eI g n f) (hh : h < 79 + wm g) (hin : i < n) (hn : n < 2 ^ 31) (hdg : decode cc pc = .ok (.iaload, 1)) {v : Value} (hv : .int (F h i) = v)
    (kk : W p l e R s m args below meth c H locs cells slots Q (F0 m (pc + 1) ls (v :: rest))) : W p l e R s m args below meth c H locs cells slots Q (F0 m pc ls (.int (nI i) :: .ref (wad g h) :: rest)) := by
  subst hv
  have ha : (wl g F)[h]? = some (wad g h, .inl (wcI g, n, .inl (F h))) := (wl_at hh).trans (by rw [he]; rfl)
  refine va_iald hc.1 hc.2.1 hw.1 hw.2.1 h 0 ha rfl (vp_in_nI hin hn) hdg ?_
  rw [nI_clamp (by omega)]
  exact kk
theorem r_iast (hc : CallFix p m c cc nL s args gws own) (hw : Wd D g F A H0 H locs s) {h n i : Nat} (he : ∀ f, wt g h f = eI g n f) (hh : h < 79 + wm g) (hin : i < n) (hn : n < 2 ^ 31) (hdg : decode cc pc = .ok (.iastore, 1)) {x : Int32}
    (kk : ∀ (H1 : Heap) (locs1 : List Loc), Wd D g (u2 F h i x) A H0 H1 locs1 s → W p l e R s m args below meth c H1 locs1 cells slots Q (F0 m (pc + 1) ls rest)) : W p l e R s m args below meth c H locs cells slots Q (F0 m pc ls (.int x :: .int (nI i) :: .ref (wad g h) :: rest)) := by
  obtain ⟨hK, hP, hD, hS, hA, hN⟩ := hw
  have ha : (wl g F)[h]? = some (wad g h, .inl (wcI g, n, .inl (F h))) := (wl_at hh).trans (by rw [he]; rfl)
  refine va_iast hc.1 hc.2.1 hK hP hD hS h 0 ha rfl (vp_in_nI hin hn) hdg (fun H1 locs1 hP hD hS => ?_)
  have e : (wl g F).set h (wad g h, .inl (wcI g, n, .inl (upd (F h) (nI i).toNatClampNeg x))) = wl g (u2 F h i x) := by
    rw [← wl_set (F' := u2 F h i x) hh u2_ne, u2_self, he, nI_clamp (by omega)]
    rfl
  have hP : va_P D classes ((wl g F).set h (wad g h, .inl (wcI g, n, .inl (upd (F h) (nI i).toNatClampNeg x)))) H1 := hP
  have hD : va_D A ((wl g F).set h (wad g h, .inl (wcI g, n, .inl (upd (F h) (nI i).toNatClampNeg x)))) := hD
  rw [e] at hP hD
  exact kk H1 locs1 ⟨hK, hP, hD, hS, hA, hN⟩
theorem r_aldO (hc : CallFix p m c cc nL s args gws own) (hw : Wd D g F A H0 H locs s) {h n i t0 : Nat} {cA : ClassId} {C : String} {r : Nat → Option Nat} (he : wt g h (F h) = eQ cA n r) (hh : h < 79 + wm g) (ht : (wtys g)[t0]? = some (cA, .object C)) (hin : i < n) (hn : n < 2 ^ 31) (hdg : decode cc pc = .ok (.aaload, 1)) {v : Value} (hv : va_rf (r i) = v)
    (kk : W p l e R s m args below meth c H locs cells slots Q (F0 m (pc + 1) ls (v :: rest))) : W p l e R s m args below meth c H locs cells slots Q (F0 m pc ls (.int (nI i) :: .ref (wad g h) :: rest)) := by
  subst hv
  have ha : (wl g F)[h]? = some (wad g h, .inl (cA, n, .inr (.inr (.inr (.inr r))))) := (wl_at hh).trans (by rw [he]; rfl)
  refine va_aldq hc.1 hc.2.1 hw.1 hw.2.1 h t0 ha ht (vp_in_nI hin hn) hdg ?_
  rw [nI_clamp (by omega)]
  exact kk
theorem r_aldA (hc : CallFix p m c cc nL s args gws own) (hw : Wd D g F A H0 H locs s) {h n i t0 : Nat} {cA : ClassId} {C : FieldType} {r : Nat → Option Nat} (he : wt g h (F h) = eQ cA n r) (hh : h < 79 + wm g) (ht : (wtys g)[t0]? = some (cA, .array C)) (hin : i < n) (hn : n < 2 ^ 31) (hdg : decode cc pc = .ok (.aaload, 1)) {v : Value} (hv : va_rf (r i) = v)
    (kk : W p l e R s m args below meth c H locs cells slots Q (F0 m (pc + 1) ls (v :: rest))) : W p l e R s m args below meth c H locs cells slots Q (F0 m pc ls (.int (nI i) :: .ref (wad g h) :: rest)) := by
  subst hv
  have ha : (wl g F)[h]? = some (wad g h, .inl (cA, n, .inr (.inr (.inr (.inr r))))) := (wl_at hh).trans (by rw [he]; rfl)
  have hv := vp_in_nI hin hn
  have hlt : (nI i).toNatClampNeg < n := Nat.not_le.mp fun q => hv (Or.inr q)
  refine W.aald (v := va_rf (r (nI i).toNatClampNeg)) (ty := .array C) hc.1 hc.2.1 (hw.2.1 h _ ha) ((hw.1.2 t0 _ ht).1 n (fun j => va_rf (r j))) rfl (fun q => by cases q) (by show ¬ (nI i < 0 ∨ (arrV _ _ _).slots.size ≤ _); rw [arrV_size]; exact hv) (by show (arrV _ _ _).slots[_]? = _; rw [arrV_read _ _ hlt]) rfl rfl hdg ?_
  rw [nI_clamp (by omega)]
  exact kk
-- comparisons of naturals
theorem n_lt {a b : Nat} (ha : a < 2 ^ 31) (hb : b < 2 ^ 31) : nI a < nI b ↔ a < b := nI_ltI ha hb
theorem q_icmp_eq (hc : CallFix p m c cc nL s args gws own) {a b : Nat} {off : Int} {tgt : Nat} (ha : a < 2 ^ 31) (hb : b < 2 ^ 31) (hdg : decode cc pc = .ok (.if_icmp .eq off, 3)) (ht : (pc : Int) + off = (tgt : Int))
    (kt : a = b → W p l e R s m args below meth c H locs cells slots Q (F0 m tgt ls rest)) (kf : a ≠ b → W p l e R s m args below meth c H locs cells slots Q (F0 m (pc + 3) ls rest)) : W p l e R s m args below meth c H locs cells slots Q (F0 m pc ls (.int (nI b) :: .int (nI a) :: rest)) :=
  lv_icmp_eq hc.1 hc.2.1 hdg ht (fun h => kt ((nI_eq ha hb).mp h)) (fun h => kf (fun q => h ((nI_eq ha hb).mpr q)))
theorem q_icmp_ne (hc : CallFix p m c cc nL s args gws own) {a b : Nat} {off : Int} {tgt : Nat} (ha : a < 2 ^ 31) (hb : b < 2 ^ 31) (hdg : decode cc pc = .ok (.if_icmp .ne off, 3)) (ht : (pc : Int) + off = (tgt : Int))
    (kt : a ≠ b → W p l e R s m args below meth c H locs cells slots Q (F0 m tgt ls rest)) (kf : a = b → W p l e R s m args below meth c H locs cells slots Q (F0 m (pc + 3) ls rest)) : W p l e R s m args below meth c H locs cells slots Q (F0 m pc ls (.int (nI b) :: .int (nI a) :: rest)) :=
  lv_icmp_ne hc.1 hc.2.1 hdg ht (fun h => kt (fun q => h ((nI_eq ha hb).mpr q))) (fun h => kf ((nI_eq ha hb).mp h))
theorem q_icmp_lt (hc : CallFix p m c cc nL s args gws own) {a b : Nat} {off : Int} {tgt : Nat} (ha : a < 2 ^ 31) (hb : b < 2 ^ 31) (hdg : decode cc pc = .ok (.if_icmp .lt off, 3)) (ht : (pc : Int) + off = (tgt : Int))
    (kt : a < b → W p l e R s m args below meth c H locs cells slots Q (F0 m tgt ls rest)) (kf : b ≤ a → W p l e R s m args below meth c H locs cells slots Q (F0 m (pc + 3) ls rest)) : W p l e R s m args below meth c H locs cells slots Q (F0 m pc ls (.int (nI b) :: .int (nI a) :: rest)) :=
  lv_icmp_lt hc.1 hc.2.1 hdg ht (fun h => kt ((nI_ltI ha hb).mp h)) (fun h => kf (Nat.not_lt.mp (fun q => h ((nI_ltI ha hb).mpr q))))
theorem q_icmp_ge (hc : CallFix p m c cc nL s args gws own) {a b : Nat} {off : Int} {tgt : Nat} (ha : a < 2 ^ 31) (hb : b < 2 ^ 31) (hdg : decode cc pc = .ok (.if_icmp .ge off, 3)) (ht : (pc : Int) + off = (tgt : Int))
    (kt : b ≤ a → W p l e R s m args below meth c H locs cells slots Q (F0 m tgt ls rest)) (kf : a < b → W p l e R s m args below meth c H locs cells slots Q (F0 m (pc + 3) ls rest)) : W p l e R s m args below meth c H locs cells slots Q (F0 m pc ls (.int (nI b) :: .int (nI a) :: rest)) :=
  lv_icmp_ge hc.1 hc.2.1 hdg ht (fun h => kt ((nI_leI hb ha).mp h)) (fun h => kf (Nat.not_le.mp (fun q => h ((nI_leI hb ha).mpr q))))
theorem q_icmp_gt (hc : CallFix p m c cc nL s args gws own) {a b : Nat} {off : Int} {tgt : Nat} (ha : a < 2 ^ 31) (hb : b < 2 ^ 31) (hdg : decode cc pc = .ok (.if_icmp .gt off, 3)) (ht : (pc : Int) + off = (tgt : Int))
    (kt : b < a → W p l e R s m args below meth c H locs cells slots Q (F0 m tgt ls rest)) (kf : a ≤ b → W p l e R s m args below meth c H locs cells slots Q (F0 m (pc + 3) ls rest)) : W p l e R s m args below meth c H locs cells slots Q (F0 m pc ls (.int (nI b) :: .int (nI a) :: rest)) :=
  lv_icmp_gt hc.1 hc.2.1 hdg ht (fun h => kt ((nI_ltI hb ha).mp h)) (fun h => kf (Nat.not_lt.mp (fun q => h ((nI_ltI hb ha).mpr q))))
theorem q_icmp_le (hc : CallFix p m c cc nL s args gws own) {a b : Nat} {off : Int} {tgt : Nat} (ha : a < 2 ^ 31) (hb : b < 2 ^ 31) (hdg : decode cc pc = .ok (.if_icmp .le off, 3)) (ht : (pc : Int) + off = (tgt : Int))
    (kt : a ≤ b → W p l e R s m args below meth c H locs cells slots Q (F0 m tgt ls rest)) (kf : b < a → W p l e R s m args below meth c H locs cells slots Q (F0 m (pc + 3) ls rest)) : W p l e R s m args below meth c H locs cells slots Q (F0 m pc ls (.int (nI b) :: .int (nI a) :: rest)) :=
  lv_icmp_le hc.1 hc.2.1 hdg ht (fun h => kt ((nI_leI ha hb).mp h)) (fun h => kf (Nat.not_le.mp (fun q => h ((nI_leI ha hb).mpr q))))
theorem q_if_eq (hc : CallFix p m c cc nL s args gws own) {a : Nat} {off : Int} {tgt : Nat} (ha : a < 2 ^ 31) (hdg : decode cc pc = .ok (.ifCond .eq off, 3)) (ht : (pc : Int) + off = (tgt : Int))
    (kt : a = 0 → W p l e R s m args below meth c H locs cells slots Q (F0 m tgt ls rest)) (kf : a ≠ 0 → W p l e R s m args below meth c H locs cells slots Q (F0 m (pc + 3) ls rest)) : W p l e R s m args below meth c H locs cells slots Q (F0 m pc ls (.int (nI a) :: rest)) :=
  lv_if_eq hc.1 hc.2.1 hdg ht (fun h => kt ((nI_eq ha (by decide)).mp (h.trans nI_0.symm))) (fun h => kf (fun q => h (by rw [q]; exact nI_0)))
theorem q_if_ne (hc : CallFix p m c cc nL s args gws own) {a : Nat} {off : Int} {tgt : Nat} (ha : a < 2 ^ 31) (hdg : decode cc pc = .ok (.ifCond .ne off, 3)) (ht : (pc : Int) + off = (tgt : Int))
    (kt : a ≠ 0 → W p l e R s m args below meth c H locs cells slots Q (F0 m tgt ls rest)) (kf : a = 0 → W p l e R s m args below meth c H locs cells slots Q (F0 m (pc + 3) ls rest)) : W p l e R s m args below meth c H locs cells slots Q (F0 m pc ls (.int (nI a) :: rest)) :=
  lv_if_ne hc.1 hc.2.1 hdg ht (fun h => kt (fun q => h (by rw [q]; exact nI_0))) (fun h => kf ((nI_eq ha (by decide)).mp (h.trans nI_0.symm)))
theorem q_if_lt (hc : CallFix p m c cc nL s args gws own) {a : Nat} {off : Int} {tgt : Nat} (ha : a < 2 ^ 31) (hdg : decode cc pc = .ok (.ifCond .lt off, 3)) (ht : (pc : Int) + off = (tgt : Int))
    (kf : W p l e R s m args below meth c H locs cells slots Q (F0 m (pc + 3) ls rest)) : W p l e R s m args below meth c H locs cells slots Q (F0 m pc ls (.int (nI a) :: rest)) :=
  lv_if_lt hc.1 hc.2.1 hdg ht (fun h => absurd h (nI_pos ha)) (fun _ => kf)
theorem q_if_ge (hc : CallFix p m c cc nL s args gws own) {a : Nat} {off : Int} {tgt : Nat} (ha : a < 2 ^ 31) (hdg : decode cc pc = .ok (.ifCond .ge off, 3)) (ht : (pc : Int) + off = (tgt : Int))
    (kt : W p l e R s m args below meth c H locs cells slots Q (F0 m tgt ls rest)) : W p l e R s m args below meth c H locs cells slots Q (F0 m pc ls (.int (nI a) :: rest)) :=
  lv_if_ge hc.1 hc.2.1 hdg ht (fun _ => kt) (fun h => absurd (nI_pos' ha) h)
theorem q_if_le (hc : CallFix p m c cc nL s args gws own) {a : Nat} {off : Int} {tgt : Nat} (ha : a < 2 ^ 31) (hdg : decode cc pc = .ok (.ifCond .le off, 3)) (ht : (pc : Int) + off = (tgt : Int))
    (kt : a = 0 → W p l e R s m args below meth c H locs cells slots Q (F0 m tgt ls rest)) (kf : 0 < a → W p l e R s m args below meth c H locs cells slots Q (F0 m (pc + 3) ls rest)) : W p l e R s m args below meth c H locs cells slots Q (F0 m pc ls (.int (nI a) :: rest)) :=
  lv_if_le hc.1 hc.2.1 hdg ht (fun h => kt (by rw [← nI_0] at h; have := (nI_leI ha (by decide)).mp h; omega)) (fun h => kf (Nat.pos_of_ne_zero (fun q => h (by rw [q, nI_0]; exact Int32.le_refl 0))))
theorem q_if_gt (hc : CallFix p m c cc nL s args gws own) {a : Nat} {off : Int} {tgt : Nat} (ha : a < 2 ^ 31) (hdg : decode cc pc = .ok (.ifCond .gt off, 3)) (ht : (pc : Int) + off = (tgt : Int))
    (kt : 0 < a → W p l e R s m args below meth c H locs cells slots Q (F0 m tgt ls rest)) (kf : a = 0 → W p l e R s m args below meth c H locs cells slots Q (F0 m (pc + 3) ls rest)) : W p l e R s m args below meth c H locs cells slots Q (F0 m pc ls (.int (nI a) :: rest)) :=
  lv_if_gt hc.1 hc.2.1 hdg ht (fun h => kt (Nat.pos_of_ne_zero (fun q => by rw [q, nI_0] at h; exact Int32.lt_irrefl h))) (fun h => kf (Nat.eq_zero_of_not_pos (fun q => h (by rw [← nI_0]; exact (nI_ltI (by decide) ha).mpr q))))
theorem q_iadd (hc : CallFix p m c cc nL s args gws own) {a b : Nat} (hdg : decode cc pc = .ok (.iadd, 1))
    (kk : W p l e R s m args below meth c H locs cells slots Q (F0 m (pc + 1) ls (.int (nI (a + b)) :: rest))) : W p l e R s m args below meth c H locs cells slots Q (F0 m pc ls (.int (nI b) :: .int (nI a) :: rest)) := by
  refine lv_iadd hc.1 hc.2.1 hdg ?_
  rw [nI_add]; exact kk
theorem q_isub (hc : CallFix p m c cc nL s args gws own) {a b : Nat} (h : b ≤ a) (hdg : decode cc pc = .ok (.isub, 1))
    (kk : W p l e R s m args below meth c H locs cells slots Q (F0 m (pc + 1) ls (.int (nI (a - b)) :: rest))) : W p l e R s m args below meth c H locs cells slots Q (F0 m pc ls (.int (nI b) :: .int (nI a) :: rest)) := by
  refine lv_isub hc.1 hc.2.1 hdg ?_
  rw [pk_sub h]; exact kk
theorem q_imul (hc : CallFix p m c cc nL s args gws own) {a b : Nat} (hdg : decode cc pc = .ok (.imul, 1))
    (kk : W p l e R s m args below meth c H locs cells slots Q (F0 m (pc + 1) ls (.int (nI (a * b)) :: rest))) : W p l e R s m args below meth c H locs cells slots Q (F0 m pc ls (.int (nI b) :: .int (nI a) :: rest)) := by
  refine lv_imul hc.1 hc.2.1 hdg ?_
  rw [pk_mul]; exact kk
theorem q_idiv (hc : CallFix p m c cc nL s args gws own) {a b : Nat} (ha : a < 2 ^ 31) (h0 : 0 < b) (hb : b < 2 ^ 31) (hdg : decode cc pc = .ok (.idiv, 1))
    (kk : W p l e R s m args below meth c H locs cells slots Q (F0 m (pc + 1) ls (.int (nI (a / b)) :: rest))) : W p l e R s m args below meth c H locs cells slots Q (F0 m pc ls (.int (nI b) :: .int (nI a) :: rest)) := by
  refine lv_idiv hc.1 hc.2.1 hdg (nI_ne0 h0 hb) ?_
  rw [pk_div ha h0 hb]; exact kk
theorem q_irem (hc : CallFix p m c cc nL s args gws own) {a b : Nat} (ha : a < 2 ^ 31) (h0 : 0 < b) (hb : b < 2 ^ 31) (hdg : decode cc pc = .ok (.irem, 1))
    (kk : W p l e R s m args below meth c H locs cells slots Q (F0 m (pc + 1) ls (.int (nI (a % b)) :: rest))) : W p l e R s m args below meth c H locs cells slots Q (F0 m pc ls (.int (nI b) :: .int (nI a) :: rest)) := by
  refine lv_irem hc.1 hc.2.1 hdg (nI_ne0 h0 hb) ?_
  rw [pk_rem ha h0 hb]; exact kk
-- comparisons of ints by what they are as integers
theorem u_icmp_eq (hc : CallFix p m c cc nL s args gws own) {x y : Int32} {X Y : Int} (hX : x.toInt = X) (hY : y.toInt = Y) {off : Int} {tgt : Nat} (hdg : decode cc pc = .ok (.if_icmp .eq off, 3)) (ht : (pc : Int) + off = (tgt : Int))
    (kt : X = Y → W p l e R s m args below meth c H locs cells slots Q (F0 m tgt ls rest)) (kf : ¬ X = Y → W p l e R s m args below meth c H locs cells slots Q (F0 m (pc + 3) ls rest)) : W p l e R s m args below meth c H locs cells slots Q (F0 m pc ls (.int y :: .int x :: rest)) :=
  lv_icmp_eq hc.1 hc.2.1 hdg ht (fun h => kt (by rw [← hX, ← hY, h])) (fun h => kf (fun q => h (Int32.toInt_inj.mp (by rw [hX, hY, q]))))
theorem u_if_eq (hc : CallFix p m c cc nL s args gws own) {x : Int32} {X : Int} (hX : x.toInt = X) {off : Int} {tgt : Nat} (hdg : decode cc pc = .ok (.ifCond .eq off, 3)) (ht : (pc : Int) + off = (tgt : Int))
    (kt : X = 0 → W p l e R s m args below meth c H locs cells slots Q (F0 m tgt ls rest)) (kf : ¬ X = 0 → W p l e R s m args below meth c H locs cells slots Q (F0 m (pc + 3) ls rest)) : W p l e R s m args below meth c H locs cells slots Q (F0 m pc ls (.int x :: rest)) :=
  lv_if_eq hc.1 hc.2.1 hdg ht (fun h => kt (by rw [← hX, ← Int32.toInt_zero, h])) (fun h => kf (fun q => h (Int32.toInt_inj.mp (by rw [hX, Int32.toInt_zero, q]))))
theorem u_icmp_ne (hc : CallFix p m c cc nL s args gws own) {x y : Int32} {X Y : Int} (hX : x.toInt = X) (hY : y.toInt = Y) {off : Int} {tgt : Nat} (hdg : decode cc pc = .ok (.if_icmp .ne off, 3)) (ht : (pc : Int) + off = (tgt : Int))
    (kt : ¬ X = Y → W p l e R s m args below meth c H locs cells slots Q (F0 m tgt ls rest)) (kf : X = Y → W p l e R s m args below meth c H locs cells slots Q (F0 m (pc + 3) ls rest)) : W p l e R s m args below meth c H locs cells slots Q (F0 m pc ls (.int y :: .int x :: rest)) :=
  lv_icmp_ne hc.1 hc.2.1 hdg ht (fun h => kt (fun q => h (Int32.toInt_inj.mp (by rw [hX, hY, q])))) (fun h => kf (by rw [← hX, ← hY, h]))
theorem u_if_ne (hc : CallFix p m c cc nL s args gws own) {x : Int32} {X : Int} (hX : x.toInt = X) {off : Int} {tgt : Nat} (hdg : decode cc pc = .ok (.ifCond .ne off, 3)) (ht : (pc : Int) + off = (tgt : Int))
    (kt : ¬ X = 0 → W p l e R s m args below meth c H locs cells slots Q (F0 m tgt ls rest)) (kf : X = 0 → W p l e R s m args below meth c H locs cells slots Q (F0 m (pc + 3) ls rest)) : W p l e R s m args below meth c H locs cells slots Q (F0 m pc ls (.int x :: rest)) :=
  lv_if_ne hc.1 hc.2.1 hdg ht (fun h => kt (fun q => h (Int32.toInt_inj.mp (by rw [hX, Int32.toInt_zero, q])))) (fun h => kf (by rw [← hX, ← Int32.toInt_zero, h]))
theorem u_icmp_lt (hc : CallFix p m c cc nL s args gws own) {x y : Int32} {X Y : Int} (hX : x.toInt = X) (hY : y.toInt = Y) {off : Int} {tgt : Nat} (hdg : decode cc pc = .ok (.if_icmp .lt off, 3)) (ht : (pc : Int) + off = (tgt : Int))
    (kt : X < Y → W p l e R s m args below meth c H locs cells slots Q (F0 m tgt ls rest)) (kf : Y ≤ X → W p l e R s m args below meth c H locs cells slots Q (F0 m (pc + 3) ls rest)) : W p l e R s m args below meth c H locs cells slots Q (F0 m pc ls (.int y :: .int x :: rest)) :=
  lv_icmp_lt hc.1 hc.2.1 hdg ht (fun h => kt (by rw [← hX, ← hY]; exact Int32.lt_iff_toInt_lt.mp h)) (fun h => kf (by rw [← hX, ← hY]; exact Int.not_lt.mp (fun q => h (Int32.lt_iff_toInt_lt.mpr q))))
theorem u_if_lt (hc : CallFix p m c cc nL s args gws own) {x : Int32} {X : Int} (hX : x.toInt = X) {off : Int} {tgt : Nat} (hdg : decode cc pc = .ok (.ifCond .lt off, 3)) (ht : (pc : Int) + off = (tgt : Int))
    (kt : X < 0 → W p l e R s m args below meth c H locs cells slots Q (F0 m tgt ls rest)) (kf : 0 ≤ X → W p l e R s m args below meth c H locs cells slots Q (F0 m (pc + 3) ls rest)) : W p l e R s m args below meth c H locs cells slots Q (F0 m pc ls (.int x :: rest)) :=
  lv_if_lt hc.1 hc.2.1 hdg ht (fun h => kt (by rw [← hX, ← Int32.toInt_zero]; exact Int32.lt_iff_toInt_lt.mp h)) (fun h => kf (by rw [← hX, ← Int32.toInt_zero]; exact Int.not_lt.mp (fun q => h (Int32.lt_iff_toInt_lt.mpr q))))
theorem u_icmp_ge (hc : CallFix p m c cc nL s args gws own) {x y : Int32} {X Y : Int} (hX : x.toInt = X) (hY : y.toInt = Y) {off : Int} {tgt : Nat} (hdg : decode cc pc = .ok (.if_icmp .ge off, 3)) (ht : (pc : Int) + off = (tgt : Int))
    (kt : Y ≤ X → W p l e R s m args below meth c H locs cells slots Q (F0 m tgt ls rest)) (kf : X < Y → W p l e R s m args below meth c H locs cells slots Q (F0 m (pc + 3) ls rest)) : W p l e R s m args below meth c H locs cells slots Q (F0 m pc ls (.int y :: .int x :: rest)) :=
  lv_icmp_ge hc.1 hc.2.1 hdg ht (fun h => kt (by rw [← hX, ← hY]; exact Int32.le_iff_toInt_le.mp h)) (fun h => kf (by rw [← hX, ← hY]; exact Int.not_le.mp (fun q => h (Int32.le_iff_toInt_le.mpr q))))
theorem u_if_ge (hc : CallFix p m c cc nL s args gws own) {x : Int32} {X : Int} (hX : x.toInt = X) {off : Int} {tgt : Nat} (hdg : decode cc pc = .ok (.ifCond .ge off, 3)) (ht : (pc : Int) + off = (tgt : Int))
    (kt : 0 ≤ X → W p l e R s m args below meth c H locs cells slots Q (F0 m tgt ls rest)) (kf : X < 0 → W p l e R s m args below meth c H locs cells slots Q (F0 m (pc + 3) ls rest)) : W p l e R s m args below meth c H locs cells slots Q (F0 m pc ls (.int x :: rest)) :=
  lv_if_ge hc.1 hc.2.1 hdg ht (fun h => kt (by rw [← hX, ← Int32.toInt_zero]; exact Int32.le_iff_toInt_le.mp h)) (fun h => kf (by rw [← hX, ← Int32.toInt_zero]; exact Int.not_le.mp (fun q => h (Int32.le_iff_toInt_le.mpr q))))
theorem u_icmp_gt (hc : CallFix p m c cc nL s args gws own) {x y : Int32} {X Y : Int} (hX : x.toInt = X) (hY : y.toInt = Y) {off : Int} {tgt : Nat} (hdg : decode cc pc = .ok (.if_icmp .gt off, 3)) (ht : (pc : Int) + off = (tgt : Int))
    (kt : Y < X → W p l e R s m args below meth c H locs cells slots Q (F0 m tgt ls rest)) (kf : X ≤ Y → W p l e R s m args below meth c H locs cells slots Q (F0 m (pc + 3) ls rest)) : W p l e R s m args below meth c H locs cells slots Q (F0 m pc ls (.int y :: .int x :: rest)) :=
  lv_icmp_gt hc.1 hc.2.1 hdg ht (fun h => kt (by rw [← hX, ← hY]; exact Int32.lt_iff_toInt_lt.mp h)) (fun h => kf (by rw [← hX, ← hY]; exact Int.not_lt.mp (fun q => h (Int32.lt_iff_toInt_lt.mpr q))))
theorem u_if_gt (hc : CallFix p m c cc nL s args gws own) {x : Int32} {X : Int} (hX : x.toInt = X) {off : Int} {tgt : Nat} (hdg : decode cc pc = .ok (.ifCond .gt off, 3)) (ht : (pc : Int) + off = (tgt : Int))
    (kt : 0 < X → W p l e R s m args below meth c H locs cells slots Q (F0 m tgt ls rest)) (kf : X ≤ 0 → W p l e R s m args below meth c H locs cells slots Q (F0 m (pc + 3) ls rest)) : W p l e R s m args below meth c H locs cells slots Q (F0 m pc ls (.int x :: rest)) :=
  lv_if_gt hc.1 hc.2.1 hdg ht (fun h => kt (by rw [← hX, ← Int32.toInt_zero]; exact Int32.lt_iff_toInt_lt.mp h)) (fun h => kf (by rw [← hX, ← Int32.toInt_zero]; exact Int.not_lt.mp (fun q => h (Int32.lt_iff_toInt_lt.mpr q))))
theorem u_icmp_le (hc : CallFix p m c cc nL s args gws own) {x y : Int32} {X Y : Int} (hX : x.toInt = X) (hY : y.toInt = Y) {off : Int} {tgt : Nat} (hdg : decode cc pc = .ok (.if_icmp .le off, 3)) (ht : (pc : Int) + off = (tgt : Int))
    (kt : X ≤ Y → W p l e R s m args below meth c H locs cells slots Q (F0 m tgt ls rest)) (kf : Y < X → W p l e R s m args below meth c H locs cells slots Q (F0 m (pc + 3) ls rest)) : W p l e R s m args below meth c H locs cells slots Q (F0 m pc ls (.int y :: .int x :: rest)) :=
  lv_icmp_le hc.1 hc.2.1 hdg ht (fun h => kt (by rw [← hX, ← hY]; exact Int32.le_iff_toInt_le.mp h)) (fun h => kf (by rw [← hX, ← hY]; exact Int.not_le.mp (fun q => h (Int32.le_iff_toInt_le.mpr q))))
theorem u_if_le (hc : CallFix p m c cc nL s args gws own) {x : Int32} {X : Int} (hX : x.toInt = X) {off : Int} {tgt : Nat} (hdg : decode cc pc = .ok (.ifCond .le off, 3)) (ht : (pc : Int) + off = (tgt : Int))
    (kt : X ≤ 0 → W p l e R s m args below meth c H locs cells slots Q (F0 m tgt ls rest)) (kf : 0 < X → W p l e R s m args below meth c H locs cells slots Q (F0 m (pc + 3) ls rest)) : W p l e R s m args below meth c H locs cells slots Q (F0 m pc ls (.int x :: rest)) :=
  lv_if_le hc.1 hc.2.1 hdg ht (fun h => kt (by rw [← hX, ← Int32.toInt_zero]; exact Int32.le_iff_toInt_le.mp h)) (fun h => kf (by rw [← hX, ← Int32.toInt_zero]; exact Int.not_le.mp (fun q => h (Int32.le_iff_toInt_le.mpr q))))
-- answers that are true or false
def bI (P : Prop) [Decidable P] : Int32 := if P then 1 else 0
theorem bI_t {P : Prop} [Decidable P] (h : P) : bI P = 1 := if_pos h
theorem bI_f {P : Prop} [Decidable P] (h : ¬ P) : bI P = 0 := if_neg h
theorem bI_nar (P : Prop) [Decidable P] : narrow .boolean (.int (bI P)) = .int (bI P) := by
  unfold bI; split <;> rfl
theorem b_if_eq (hc : CallFix p m c cc nL s args gws own) {P : Prop} [Decidable P] {off : Int} {tgt : Nat} (hdg : decode cc pc = .ok (.ifCond .eq off, 3)) (ht : (pc : Int) + off = (tgt : Int))
    (kt : ¬ P → W p l e R s m args below meth c H locs cells slots Q (F0 m tgt ls rest)) (kf : P → W p l e R s m args below meth c H locs cells slots Q (F0 m (pc + 3) ls rest)) : W p l e R s m args below meth c H locs cells slots Q (F0 m pc ls (.int (bI P) :: rest)) :=
  lv_if_eq hc.1 hc.2.1 hdg ht (fun h => kt (fun q => by rw [bI_t q] at h; exact absurd h (by decide))) (fun h => kf (Decidable.byContradiction fun q => h (bI_f q)))
theorem b_if_ne (hc : CallFix p m c cc nL s args gws own) {P : Prop} [Decidable P] {off : Int} {tgt : Nat} (hdg : decode cc pc = .ok (.ifCond .ne off, 3)) (ht : (pc : Int) + off = (tgt : Int))
    (kt : P → W p l e R s m args below meth c H locs cells slots Q (F0 m tgt ls rest)) (kf : ¬ P → W p l e R s m args below meth c H locs cells slots Q (F0 m (pc + 3) ls rest)) : W p l e R s m args below meth c H locs cells slots Q (F0 m pc ls (.int (bI P) :: rest)) :=
  lv_if_ne hc.1 hc.2.1 hdg ht (fun h => kt (Decidable.byContradiction fun q => h (bI_f q))) (fun h => kf (fun q => by rw [bI_t q] at h; exact absurd h (by decide)))
-- calls: what a link has to say
def LkB (y : MethodName) (b : ByteArray) (n : Nat) (ret : Option FieldType) (k : Nat) : Prop :=
  Cond.code y b n ret ∈ gws ∧ Cond.initialized y.cls ∈ gws ∧ y.cls ≠ "java/lang/invoke/MethodHandle" ∧ y.cls ≠ "java/lang/invoke/VarHandle" ∧ (parseMethodDescriptor y.desc).map (fun d => d.parameters.length) = some k
def LkV (own : String) (idx : Nat) (y : MethodName) (b : ByteArray) (n : Nat) (ret : Option FieldType) (k : Nat) : Prop :=
  LkB y b n ret k ∧ Cond.methodLink own idx y ∈ gws ∧ Cond.instanceMethod y ∈ gws ∧ Cond.selects y.cls y y ∈ gws
def LkS (own : String) (idx : Nat) (y : MethodName) (b : ByteArray) (n : Nat) (ret : Option FieldType) (k : Nat) : Prop :=
  LkB y b n ret k ∧ Cond.methodLink own idx y ∈ gws ∧ Cond.static y ∈ gws
def LkN (own : String) (idx : Nat) (y : MethodName) (b : ByteArray) (n : Nat) (ret : Option FieldType) (k : Nat) : Prop :=
  LkB y b n ret k ∧ (∃ host, Cond.methodLinkNest own idx y host ∈ nwl) ∧ Cond.static y ∈ gws
variable {y : MethodName} {b : ByteArray} {n k idx : Nat} {ret : Option FieldType} {rm : Room} {B : State → Prop} {Qc : Array Value → State → Outcome → State → Prop} {mc ms : Nat} {free : Addr → Prop} {As : List Value} {a : Nat}
theorem runV (hc : CallFix p m c cc nL s args gws own) (lk : LkV own idx y b n ret k) (hM : Met l y (.code y b n ret :: gws) rm (va_Pc (.ref a :: As) B) Qc mc ms free) (hR : rm.cells = mc ∧ rm.slots = ms ∧ rm.frames + 1 ≤ R.frames ∧ 8 + (n + 11) + rm.locals ≤ R.locals)
    (hB : FrameBlind (va_Pc (.ref a :: As) B)) (hrecv : ∃ cellB : Cell, H[a]? = some cellB ∧ cellB.vm.isStatics = false ∧ s.vm.findClass y.cls = some cellB.cls) (hpre : ∀ U : State, U.heap = H → s.WarmedH U.vm → B U) (hn : As.length = k) (hl : lv_has ls nL lv) (hst : st = As.reverse ++ .ref a :: rest) (hroom : (rest.map fun v => v.category).sum ≤ 8)
    (hdg : decode cc pc = .ok (.invokevirtual idx, 3)) (hf : cells + mc ≤ R.cells ∧ slots + ms ≤ R.slots) : va_Run p l e R s m args below meth c H locs cells slots mc ms (F0 m pc ls st) rest (Qc (Value.ref a :: As).toArray) free := by
  obtain ⟨⟨h1, h2, h3, h4, h5⟩, h6, h7, h8⟩ := lk
  have hts := hc.2.2.2.2
  exact va_runV hc hM ⟨callB_of k hts (g_into (fun _ h => h) h1) rfl hR.1 hR.2.1 (hts _ h2) (hts _ h6) ⟨h3, h4, h5⟩ hR.2.2, hts _ h7, hts _ h8⟩ ⟨hB, hrecv, fun U hU hW => ⟨rfl, hpre U hU hW⟩⟩ rfl hn hl.1 hst (lv_room hroom) hdg hf
theorem runS (hc : CallFix p m c cc nL s args gws own) (lk : LkS own idx y b n ret k) (hM : Met l y (.code y b n ret :: gws) rm (va_Pc As B) Qc mc ms free) (hR : rm.cells = mc ∧ rm.slots = ms ∧ rm.frames + 1 ≤ R.frames ∧ 8 + (n + 11) + rm.locals ≤ R.locals)
    (hB : FrameBlind (va_Pc As B)) (hpre : ∀ U : State, U.heap = H → s.WarmedH U.vm → B U) (hn : As.length = k) (hl : lv_has ls nL lv) (hst : st = As.reverse ++ rest) (hroom : (rest.map fun v => v.category).sum ≤ 8)
    (hdg : decode cc pc = .ok (.invokestatic idx, 3)) (hf : cells + mc ≤ R.cells ∧ slots + ms ≤ R.slots) : va_Run p l e R s m args below meth c H locs cells slots mc ms (F0 m pc ls st) rest (Qc As.toArray) free := by
  obtain ⟨⟨h1, h2, h3, h4, h5⟩, h6, h7⟩ := lk
  have hts := hc.2.2.2.2
  exact va_runS hc hM ⟨callB_of k hts (g_into (fun _ h => h) h1) rfl hR.1 hR.2.1 (hts _ h2) (hts _ h6) ⟨h3, h4, h5⟩ hR.2.2, hts _ h7⟩ ⟨hB, fun U hU hW => ⟨rfl, hpre U hU hW⟩⟩ rfl hn hl.1 hst (lv_room hroom) hdg hf
theorem runN (hc : CallFix p m c cc nL s args gws own) (hN : Nz s) (lk : LkN own idx y b n ret k) (hM : Met l y (.code y b n ret :: gws) rm (va_Pc As B) Qc mc ms free) (hR : rm.cells = mc ∧ rm.slots = ms ∧ rm.frames + 1 ≤ R.frames ∧ 8 + (n + 11) + rm.locals ≤ R.locals)
    (hB : FrameBlind (va_Pc As B)) (hpre : ∀ U : State, U.heap = H → s.WarmedH U.vm → B U) (hn : As.length = k) (hl : lv_has ls nL lv) (hst : st = As.reverse ++ rest) (hroom : (rest.map fun v => v.category).sum ≤ 8)
    (hdg : decode cc pc = .ok (.invokestatic idx, 3)) (hf : cells + mc ≤ R.cells ∧ slots + ms ≤ R.slots) : va_Run p l e R s m args below meth c H locs cells slots mc ms (F0 m pc ls st) rest (Qc As.toArray) free := by
  obtain ⟨⟨h1, h2, h3, h4, h5⟩, ⟨host, h6⟩, h7⟩ := lk
  have hts := hc.2.2.2.2
  exact va_runSN (host := host) hc hM ⟨va_cnB k hts (g_into (fun _ h => h) h1) rfl hR.1 hR.2.1 (hN.1 _ h6) (hts _ h2) ⟨h3, h4, h5⟩ hR.2.2, hts _ h7, trivial⟩ ⟨hB, fun U hU hW => ⟨rfl, hpre U hU hW⟩⟩ rfl hn hl.1 hst (lv_room hroom) hdg hf
-- calls of methods that change nothing
variable {d : Nat} {v : Value}
theorem kRV (hc : CallFix p m c cc nL s args gws own) (hw : Wd D g F A H0 H locs s) (lk : LkV own idx y b n ret k) {h : Nat} (hM : CR l y b n ret d D g F (.ref (wad g h) :: As) v) (hrecv : ∃ cellB : Cell, H[wad g h]? = some cellB ∧ cellB.vm.isStatics = false ∧ s.vm.findClass y.cls = some cellB.cls)
    (hR : d + 1 ≤ R.frames ∧ 8 + (n + 11) + 34 * d ≤ R.locals) (hf : cells ≤ R.cells ∧ slots ≤ R.slots) (hn : As.length = k) (hl : lv_has ls nL lv) (hst : st = As.reverse ++ .ref (wad g h) :: rest) (hroom : (rest.map fun v => v.category).sum ≤ 8) (hdg : decode cc pc = .ok (.invokevirtual idx, 3))
    (kk : W p l e R s m args below meth c H locs cells slots Q (F0 m (pc + 3) ls (v :: rest))) : W p l e R s m args below meth c H locs cells slots Q (F0 m pc ls st) :=
  W.callV (va_Run.run (runV hc lk (hM H.size) ⟨rfl, rfl, hR⟩ (Pz.blind D g F _ _) hrecv (fun U hU hW => hw.pre hU hW) hn hl hst hroom hdg hf)) kk
theorem kRS (hc : CallFix p m c cc nL s args gws own) (hw : Wd D g F A H0 H locs s) (lk : LkS own idx y b n ret k) (hM : CR l y b n ret d D g F As v)
    (hR : d + 1 ≤ R.frames ∧ 8 + (n + 11) + 34 * d ≤ R.locals) (hf : cells ≤ R.cells ∧ slots ≤ R.slots) (hn : As.length = k) (hl : lv_has ls nL lv) (hst : st = As.reverse ++ rest) (hroom : (rest.map fun v => v.category).sum ≤ 8) (hdg : decode cc pc = .ok (.invokestatic idx, 3))
    (kk : W p l e R s m args below meth c H locs cells slots Q (F0 m (pc + 3) ls (v :: rest))) : W p l e R s m args below meth c H locs cells slots Q (F0 m pc ls st) :=
  W.callV (va_Run.run (runS hc lk (hM H.size) ⟨rfl, rfl, hR⟩ (Pz.blind D g F _ _) (fun U hU hW => hw.pre hU hW) hn hl hst hroom hdg hf)) kk
theorem kRN (hc : CallFix p m c cc nL s args gws own) (hw : Wd D g F A H0 H locs s) (lk : LkN own idx y b n ret k) (hM : CR l y b n ret d D g F As v)
    (hR : d + 1 ≤ R.frames ∧ 8 + (n + 11) + 34 * d ≤ R.locals) (hf : cells ≤ R.cells ∧ slots ≤ R.slots) (hn : As.length = k) (hl : lv_has ls nL lv) (hst : st = As.reverse ++ rest) (hroom : (rest.map fun v => v.category).sum ≤ 8) (hdg : decode cc pc = .ok (.invokestatic idx, 3))
    (kk : W p l e R s m args below meth c H locs cells slots Q (F0 m (pc + 3) ls (v :: rest))) : W p l e R s m args below meth c H locs cells slots Q (F0 m pc ls st) :=
  W.callV (va_Run.run (runN hc hw.2.2.2.2.2 lk (hM H.size) ⟨rfl, rfl, hR⟩ (Pz.blind D g F _ _) (fun U hU hW => hw.pre hU hW) hn hl hst hroom hdg hf)) kk
-- calls of methods that change the world
variable {post : Option Value → wG → wF → Prop}
theorem finW {aa : Array Value} (hr : va_Run p l e R s m args below meth c H locs cells slots mc ms (F0 m pc ls st) rest (Qw post (Bw D (va_A (wl g F) H.size)) (va_A (wl g F) H.size) aa) (va_A (wl g F) H.size)) (hw : Wd D g F A H0 H locs s)
    (kk : ∀ (v : Option Value) (g' : wG) (u : wF) (H1 : Heap) (locs1 : List Loc), post v g' u → Wd D g' u A H0 H1 locs1 s → W p l e R s m args below meth c H1 locs1 (cells + mc) (slots + ms) Q (F0 m (pc + 3) ls (v.toList ++ rest))) : W p l e R s m args below meth c H locs cells slots Q (F0 m pc ls st) := by
  intro T hT X
  obtain ⟨v, st₀, t, T', L, h0, X', hL, e1, e2, ⟨⟨v', g', u, hv, hp, hK1, hP1, hD1, hN1⟩, hz, hk⟩, stp⟩ := hr T hT X
  cases hv
  rw [h0] at hz hk
  have hfr := hw.free
  obtain ⟨hK, hP, hD, hS, hA, hN⟩ := hw
  have hal : s.vm.Alike t.vm := by rw [← e2]; exact X'.warmed.alike
  have hWt : s.WarmedH t.vm := by rw [← e2]; exact X'.warmed
  obtain ⟨t2, a1, b1⟩ := kk v g' u T'.heap (locs ++ L) hp ⟨va_K.moved hal.symm hK1, by rw [e1]; exact hP1, hD1.weaken (fun _ q _ hq => hfr q.1 hq), ⟨Nat.le_trans hS.1 (by rw [e1]; exact hz), fun q h1 h2 => by rw [e1, hk q (Nat.lt_of_lt_of_le h1 hS.1) (fun z => h2 (hfr q z))]; exact hS.2.1 q h1 h2, fun q hq => by
      rcases List.mem_append.mp hq with h | h
      · exact hS.2.2 q h
      · exact hfr _ (hL q h)⟩, hA, hN⟩ T' rfl X'
  exact ⟨t2, stp t2 a1, b1⟩
theorem kWV (hc : CallFix p m c cc nL s args gws own) (hw : Wd D g F A H0 H locs s) (lk : LkV own idx y b n ret k) {h : Nat} (hM : CW l y b n ret d mc ms D g F (.ref (wad g h) :: As) post) (hrecv : ∃ cellB : Cell, H[wad g h]? = some cellB ∧ cellB.vm.isStatics = false ∧ s.vm.findClass y.cls = some cellB.cls)
    (hR : d + 1 ≤ R.frames ∧ 8 + (n + 11) + 34 * d ≤ R.locals) (hf : cells + mc ≤ R.cells ∧ slots + ms ≤ R.slots) (hn : As.length = k) (hl : lv_has ls nL lv) (hst : st = As.reverse ++ .ref (wad g h) :: rest) (hroom : (rest.map fun v => v.category).sum ≤ 8) (hdg : decode cc pc = .ok (.invokevirtual idx, 3))
    (kk : ∀ (v : Option Value) (g' : wG) (u : wF) (H1 : Heap) (locs1 : List Loc), post v g' u → Wd D g' u A H0 H1 locs1 s → W p l e R s m args below meth c H1 locs1 (cells + mc) (slots + ms) Q (F0 m (pc + 3) ls (v.toList ++ rest))) : W p l e R s m args below meth c H locs cells slots Q (F0 m pc ls st) :=
  finW (runV hc lk (hM H.size) ⟨rfl, rfl, hR⟩ (Pz.blind D g F _ _) hrecv (fun U hU hW => hw.pre hU hW) hn hl hst hroom hdg hf) hw kk
theorem kWS (hc : CallFix p m c cc nL s args gws own) (hw : Wd D g F A H0 H locs s) (lk : LkS own idx y b n ret k) (hM : CW l y b n ret d mc ms D g F As post)
    (hR : d + 1 ≤ R.frames ∧ 8 + (n + 11) + 34 * d ≤ R.locals) (hf : cells + mc ≤ R.cells ∧ slots + ms ≤ R.slots) (hn : As.length = k) (hl : lv_has ls nL lv) (hst : st = As.reverse ++ rest) (hroom : (rest.map fun v => v.category).sum ≤ 8) (hdg : decode cc pc = .ok (.invokestatic idx, 3))
    (kk : ∀ (v : Option Value) (g' : wG) (u : wF) (H1 : Heap) (locs1 : List Loc), post v g' u → Wd D g' u A H0 H1 locs1 s → W p l e R s m args below meth c H1 locs1 (cells + mc) (slots + ms) Q (F0 m (pc + 3) ls (v.toList ++ rest))) : W p l e R s m args below meth c H locs cells slots Q (F0 m pc ls st) :=
  finW (runS hc lk (hM H.size) ⟨rfl, rfl, hR⟩ (Pz.blind D g F _ _) (fun U hU hW => hw.pre hU hW) hn hl hst hroom hdg hf) hw kk
-- receivers
theorem rc_AP (hw : Wd D g F A H0 H locs s) : ∃ cellB : Cell, H[wad g 0]? = some cellB ∧ cellB.vm.isStatics = false ∧ s.vm.findClass R_AP = some cellB.cls :=
  va_recv hw.1 hw.2.1 (ci := 0) (q0 := 0) rfl (show (wl g F)[0]? = some (wad g 0, eAP g (F 0)) from wl_at (by omega))
theorem rc_LE (hw : Wd D g F A H0 H locs s) : ∃ cellB : Cell, H[wad g 11]? = some cellB ∧ cellB.vm.isStatics = false ∧ s.vm.findClass R_LE = some cellB.cls :=
  va_recv hw.1 hw.2.1 (ci := 2) (q0 := 11) rfl (show (wl g F)[11]? = some (wad g 11, eLE g (F 11)) from wl_at (by omega))
theorem rc_SE (hw : Wd D g F A H0 H locs s) : ∃ cellB : Cell, H[wad g 19]? = some cellB ∧ cellB.vm.isStatics = false ∧ s.vm.findClass R_SE = some cellB.cls :=
  va_recv hw.1 hw.2.1 (ci := 3) (q0 := 19) rfl (show (wl g F)[19]? = some (wad g 19, eSE g (F 19)) from wl_at (by omega))
theorem rc_TU (hw : Wd D g F A H0 H locs s) : ∃ cellB : Cell, H[wad g 23]? = some cellB ∧ cellB.vm.isStatics = false ∧ s.vm.findClass R_TU = some cellB.cls :=
  va_recv hw.1 hw.2.1 (ci := 4) (q0 := 23) rfl (show (wl g F)[23]? = some (wad g 23, eTU g (F 23)) from wl_at (by omega))
theorem rc_PA (hw : Wd D g F A H0 H locs s) : ∃ cellB : Cell, H[wad g 44]? = some cellB ∧ cellB.vm.isStatics = false ∧ s.vm.findClass R_PA = some cellB.cls :=
  va_recv hw.1 hw.2.1 (ci := 5) (q0 := 44) rfl (show (wl g F)[44]? = some (wad g 44, ePA g (F 44)) from wl_at (by omega))
theorem rc_TR (hw : Wd D g F A H0 H locs s) : ∃ cellB : Cell, H[wad g 57]? = some cellB ∧ cellB.vm.isStatics = false ∧ s.vm.findClass R_TR = some cellB.cls :=
  va_recv hw.1 hw.2.1 (ci := 6) (q0 := 57) rfl (show (wl g F)[57]? = some (wad g 57, eTR (F 57)) from wl_at (by omega))
theorem rc_MO (hw : Wd D g F A H0 H locs s) : ∃ cellB : Cell, H[wad g 58]? = some cellB ∧ cellB.vm.isStatics = false ∧ s.vm.findClass R_MO = some cellB.cls :=
  va_recv hw.1 hw.2.1 (ci := 10) (q0 := 58) rfl (show (wl g F)[58]? = some (wad g 58, eMO g (F 58)) from wl_at (by omega))
theorem rc_RW (hw : Wd D g F A H0 H locs s) {k : Nat} (hk : k < 4) : ∃ cellB : Cell, H[wad g (2 * k + 2)]? = some cellB ∧ cellB.vm.isStatics = false ∧ s.vm.findClass R_RW = some cellB.cls :=
  va_recv hw.1 hw.2.1 (ci := 1) (q0 := 2 * k + 2) rfl (show (wl g F)[2 * k + 2]? = some (wad g (2 * k + 2), eRW g k (F (2 * k + 2))) from (wl_at (by omega)).trans (by rw [wt_row g hk]))
theorem rc_WR (hw : Wd D g F A H0 H locs s) {k : Nat} (hk : k < wm g) (h0 : wK g k = 0) : ∃ cellB : Cell, H[wad g (79 + k)]? = some cellB ∧ cellB.vm.isStatics = false ∧ s.vm.findClass R_WR = some cellB.cls :=
  va_recv hw.1 hw.2.1 (ci := 7) (q0 := 79 + k) rfl (show (wl g F)[79 + k]? = some (wad g (79 + k), eWR 0 (F (79 + k))) from (wl_at (by omega)).trans (by rw [wt_per, h0]))
theorem rc_MI (hw : Wd D g F A H0 H locs s) {k : Nat} (hk : k < wm g) (h0 : wK g k = 1) : ∃ cellB : Cell, H[wad g (79 + k)]? = some cellB ∧ cellB.vm.isStatics = false ∧ s.vm.findClass R_MI = some cellB.cls :=
  va_recv hw.1 hw.2.1 (ci := 8) (q0 := 79 + k) rfl (show (wl g F)[79 + k]? = some (wad g (79 + k), eWR 1 (F (79 + k))) from (wl_at (by omega)).trans (by rw [wt_per, h0]))
theorem rc_LA (hw : Wd D g F A H0 H locs s) {k : Nat} (hk : k < wm g) (h0 : wK g k = 2) : ∃ cellB : Cell, H[wad g (79 + k)]? = some cellB ∧ cellB.vm.isStatics = false ∧ s.vm.findClass R_LA = some cellB.cls :=
  va_recv hw.1 hw.2.1 (ci := 9) (q0 := 79 + k) rfl (show (wl g F)[79 + k]? = some (wad g (79 + k), eWR 2 (F (79 + k))) from (wl_at (by omega)).trans (by rw [wt_per, h0]))
-- fields
theorem gf_RW_9 (hc : CallFix p m c cc nL s args gws R_RW) (hw : Wd D g F A H0 H locs s) {k : Nat} (hk : k < 4) (hdg : decode cc pc = .ok (.getfield 9, 3))
    (kk : W p l e R s m args below meth c H locs cells slots Q (F0 m (pc + 3) ls (.ref (wad g (2 * k + 3)) :: rest))) : W p l e R s m args below meth c H locs cells slots Q (F0 m pc ls (.ref (wad g (2 * k + 2)) :: rest)) := 
  va_get (D := D) (ci := 1) (C := R_RW) (T := F_RW) (N := 3) hc.1 hc.2.1 hc.2.2.2.2 i_RW hc.2.2.2.1 hw.1 hw.2.1 (2 * k + 2) (show (wl g F)[2 * k + 2]? = some (wad g (2 * k + 2), eRW g k (F (2 * k + 2))) from (wl_at (by omega)).trans (by rw [wt_row g hk])) rfl 0 (by decide) (hc.2.2.2.2 _ g_30) (fun _ h9 => h9) rfl hdg kk
theorem gf_AP_79 (hc : CallFix p m c cc nL s args gws R_AP) (hw : Wd D g F A H0 H locs s) {k : Nat} (hk : k < 4) (hdg : decode cc pc = .ok (.getfield 79, 3))
    (kk : W p l e R s m args below meth c H locs cells slots Q (F0 m (pc + 3) ls (.ref (wad g (2 * k + 3)) :: rest))) : W p l e R s m args below meth c H locs cells slots Q (F0 m pc ls (.ref (wad g (2 * k + 2)) :: rest)) := 
  va_get (D := D) (ci := 1) (C := R_RW) (T := F_RW) (N := 3) hc.1 hc.2.1 hc.2.2.2.2 i_RW hc.2.2.2.1 hw.1 hw.2.1 (2 * k + 2) (show (wl g F)[2 * k + 2]? = some (wad g (2 * k + 2), eRW g k (F (2 * k + 2))) from (wl_at (by omega)).trans (by rw [wt_row g hk])) rfl 0 (by decide) (hc.2.2.2.2 _ g_31) (fun _ h9 => h9) rfl hdg kk
theorem gf_RW_15 (hc : CallFix p m c cc nL s args gws R_RW) (hw : Wd D g F A H0 H locs s) {k : Nat} (hk : k < 4) (hdg : decode cc pc = .ok (.getfield 15, 3)) {v : Value} (hv : .int (F (2 * k + 2) 1) = v)
    (kk : W p l e R s m args below meth c H locs cells slots Q (F0 m (pc + 3) ls (v :: rest))) : W p l e R s m args below meth c H locs cells slots Q (F0 m pc ls (.ref (wad g (2 * k + 2)) :: rest)) := 
  va_get (D := D) (ci := 1) (C := R_RW) (T := F_RW) (N := 3) hc.1 hc.2.1 hc.2.2.2.2 i_RW hc.2.2.2.1 hw.1 hw.2.1 (2 * k + 2) (show (wl g F)[2 * k + 2]? = some (wad g (2 * k + 2), eRW g k (F (2 * k + 2))) from (wl_at (by omega)).trans (by rw [wt_row g hk])) rfl 1 (by decide) (hc.2.2.2.2 _ g_32) (fun _ h9 => h9) (congrArg some hv) hdg kk
theorem pf_RW_15 (hc : CallFix p m c cc nL s args gws R_RW) (hw : Wd D g F A H0 H locs s) {k : Nat} (hk : k < 4) (hdg : decode cc pc = .ok (.putfield 15, 3)) {x : Int32}
    (kk : ∀ (H1 : Heap) (locs1 : List Loc), Wd D g (u2 F (2 * k + 2) 1 x) A H0 H1 locs1 s → W p l e R s m args below meth c H1 locs1 cells slots Q (F0 m (pc + 3) ls rest)) : W p l e R s m args below meth c H locs cells slots Q (F0 m pc ls (.int x :: .ref (wad g (2 * k + 2)) :: rest)) := by
  obtain ⟨hK, hP, hD, hS, hA, hN⟩ := hw
  refine va_put (D := D) (ci := 1) (v := .int x) (ty := .int) (C := R_RW) (T := F_RW) (N := 3) hc.1 hc.2.1 hc.2.2.2.2 i_RW t_RW t_RW_ok n_RW hc.2.2.2.1 hK hP hD hS (2 * k + 2) (show (wl g F)[2 * k + 2]? = some (wad g (2 * k + 2), eRW g k (F (2 * k + 2))) from (wl_at (by omega)).trans (by rw [wt_row g hk])) rfl 1 (by decide) (hc.2.2.2.2 _ g_32) (fun _ h9 => h9) rfl (by decide +kernel) rfl rfl (Nat.le_of_ble_eq_true rfl) hdg (fun H1 locs1 hP hD hS => ?_)
  have e : wt g (2 * k + 2) (upd (F (2 * k + 2)) 1 x) = eRW g k (upd (F (2 * k + 2)) 1 x) := wt_row g hk _
  have e2 := wl_set (F := F) (F' := u2 F (2 * k + 2) 1 x) (g := g) (h := (2 * k + 2)) (by omega) u2_ne
  rw [u2_self, e] at e2
  exact kk H1 locs1 ⟨hK, e2 ▸ hP, e2 ▸ hD, hS, hA, hN⟩
theorem gf_AP_224 (hc : CallFix p m c cc nL s args gws R_AP) (hw : Wd D g F A H0 H locs s) {k : Nat} (hk : k < 4) (hdg : decode cc pc = .ok (.getfield 224, 3)) {v : Value} (hv : .int (F (2 * k + 2) 1) = v)
    (kk : W p l e R s m args below meth c H locs cells slots Q (F0 m (pc + 3) ls (v :: rest))) : W p l e R s m args below meth c H locs cells slots Q (F0 m pc ls (.ref (wad g (2 * k + 2)) :: rest)) := 
  va_get (D := D) (ci := 1) (C := R_RW) (T := F_RW) (N := 3) hc.1 hc.2.1 hc.2.2.2.2 i_RW hc.2.2.2.1 hw.1 hw.2.1 (2 * k + 2) (show (wl g F)[2 * k + 2]? = some (wad g (2 * k + 2), eRW g k (F (2 * k + 2))) from (wl_at (by omega)).trans (by rw [wt_row g hk])) rfl 1 (by decide) (hc.2.2.2.2 _ g_33) (fun _ h9 => h9) (congrArg some hv) hdg kk
theorem pf_AP_224 (hc : CallFix p m c cc nL s args gws R_AP) (hw : Wd D g F A H0 H locs s) {k : Nat} (hk : k < 4) (hdg : decode cc pc = .ok (.putfield 224, 3)) {x : Int32}
    (kk : ∀ (H1 : Heap) (locs1 : List Loc), Wd D g (u2 F (2 * k + 2) 1 x) A H0 H1 locs1 s → W p l e R s m args below meth c H1 locs1 cells slots Q (F0 m (pc + 3) ls rest)) : W p l e R s m args below meth c H locs cells slots Q (F0 m pc ls (.int x :: .ref (wad g (2 * k + 2)) :: rest)) := by
  obtain ⟨hK, hP, hD, hS, hA, hN⟩ := hw
  refine va_put (D := D) (ci := 1) (v := .int x) (ty := .int) (C := R_RW) (T := F_RW) (N := 3) hc.1 hc.2.1 hc.2.2.2.2 i_RW t_RW t_RW_ok n_RW hc.2.2.2.1 hK hP hD hS (2 * k + 2) (show (wl g F)[2 * k + 2]? = some (wad g (2 * k + 2), eRW g k (F (2 * k + 2))) from (wl_at (by omega)).trans (by rw [wt_row g hk])) rfl 1 (by decide) (hc.2.2.2.2 _ g_33) (fun _ h9 => h9) rfl (by decide +kernel) rfl rfl (Nat.le_of_ble_eq_true rfl) hdg (fun H1 locs1 hP hD hS => ?_)
  have e : wt g (2 * k + 2) (upd (F (2 * k + 2)) 1 x) = eRW g k (upd (F (2 * k + 2)) 1 x) := wt_row g hk _
  have e2 := wl_set (F := F) (F' := u2 F (2 * k + 2) 1 x) (g := g) (h := (2 * k + 2)) (by omega) u2_ne
  rw [u2_self, e] at e2
  exact kk H1 locs1 ⟨hK, e2 ▸ hP, e2 ▸ hD, hS, hA, hN⟩
theorem gf_RW_19 (hc : CallFix p m c cc nL s args gws R_RW) (hw : Wd D g F A H0 H locs s) {k : Nat} (hk : k < 4) (hdg : decode cc pc = .ok (.getfield 19, 3)) {v : Value} (hv : .int (F (2 * k + 2) 2) = v)
    (kk : W p l e R s m args below meth c H locs cells slots Q (F0 m (pc + 3) ls (v :: rest))) : W p l e R s m args below meth c H locs cells slots Q (F0 m pc ls (.ref (wad g (2 * k + 2)) :: rest)) := 
  va_get (D := D) (ci := 1) (C := R_RW) (T := F_RW) (N := 3) hc.1 hc.2.1 hc.2.2.2.2 i_RW hc.2.2.2.1 hw.1 hw.2.1 (2 * k + 2) (show (wl g F)[2 * k + 2]? = some (wad g (2 * k + 2), eRW g k (F (2 * k + 2))) from (wl_at (by omega)).trans (by rw [wt_row g hk])) rfl 2 (by decide) (hc.2.2.2.2 _ g_34) (fun _ h9 => h9) (congrArg some hv) hdg kk
theorem pf_RW_19 (hc : CallFix p m c cc nL s args gws R_RW) (hw : Wd D g F A H0 H locs s) {k : Nat} (hk : k < 4) (hdg : decode cc pc = .ok (.putfield 19, 3)) {x : Int32}
    (kk : ∀ (H1 : Heap) (locs1 : List Loc), Wd D g (u2 F (2 * k + 2) 2 x) A H0 H1 locs1 s → W p l e R s m args below meth c H1 locs1 cells slots Q (F0 m (pc + 3) ls rest)) : W p l e R s m args below meth c H locs cells slots Q (F0 m pc ls (.int x :: .ref (wad g (2 * k + 2)) :: rest)) := by
  obtain ⟨hK, hP, hD, hS, hA, hN⟩ := hw
  refine va_put (D := D) (ci := 1) (v := .int x) (ty := .int) (C := R_RW) (T := F_RW) (N := 3) hc.1 hc.2.1 hc.2.2.2.2 i_RW t_RW t_RW_ok n_RW hc.2.2.2.1 hK hP hD hS (2 * k + 2) (show (wl g F)[2 * k + 2]? = some (wad g (2 * k + 2), eRW g k (F (2 * k + 2))) from (wl_at (by omega)).trans (by rw [wt_row g hk])) rfl 2 (by decide) (hc.2.2.2.2 _ g_34) (fun _ h9 => h9) rfl (by decide +kernel) rfl rfl (Nat.le_of_ble_eq_true rfl) hdg (fun H1 locs1 hP hD hS => ?_)
  have e : wt g (2 * k + 2) (upd (F (2 * k + 2)) 2 x) = eRW g k (upd (F (2 * k + 2)) 2 x) := wt_row g hk _
  have e2 := wl_set (F := F) (F' := u2 F (2 * k + 2) 2 x) (g := g) (h := (2 * k + 2)) (by omega) u2_ne
  rw [u2_self, e] at e2
  exact kk H1 locs1 ⟨hK, e2 ▸ hP, e2 ▸ hD, hS, hA, hN⟩
theorem gf_LE_9 (hc : CallFix p m c cc nL s args gws R_LE) (hw : Wd D g F A H0 H locs s) (hdg : decode cc pc = .ok (.getfield 9, 3))
    (kk : W p l e R s m args below meth c H locs cells slots Q (F0 m (pc + 3) ls (.ref (wad g 12) :: rest))) : W p l e R s m args below meth c H locs cells slots Q (F0 m pc ls (.ref (wad g 11) :: rest)) := 
  va_get (D := D) (ci := 2) (C := R_LE) (T := F_LE) (N := 8) hc.1 hc.2.1 hc.2.2.2.2 i_LE hc.2.2.2.1 hw.1 hw.2.1 11 (show (wl g F)[11]? = some (wad g 11, eLE g (F 11)) from wl_at (by omega)) rfl 0 (by decide) (hc.2.2.2.2 _ g_51) (fun _ h9 => h9) rfl hdg kk
theorem gf_AP_137 (hc : CallFix p m c cc nL s args gws R_AP) (hw : Wd D g F A H0 H locs s) (hdg : decode cc pc = .ok (.getfield 137, 3))
    (kk : W p l e R s m args below meth c H locs cells slots Q (F0 m (pc + 3) ls (.ref (wad g 12) :: rest))) : W p l e R s m args below meth c H locs cells slots Q (F0 m pc ls (.ref (wad g 11) :: rest)) := 
  va_get (D := D) (ci := 2) (C := R_LE) (T := F_LE) (N := 8) hc.1 hc.2.1 hc.2.2.2.2 i_LE hc.2.2.2.1 hw.1 hw.2.1 11 (show (wl g F)[11]? = some (wad g 11, eLE g (F 11)) from wl_at (by omega)) rfl 0 (by decide) (hc.2.2.2.2 _ g_52) (fun _ h9 => h9) rfl hdg kk
theorem gf_LE_15 (hc : CallFix p m c cc nL s args gws R_LE) (hw : Wd D g F A H0 H locs s) (hdg : decode cc pc = .ok (.getfield 15, 3))
    (kk : W p l e R s m args below meth c H locs cells slots Q (F0 m (pc + 3) ls (.ref (wad g 13) :: rest))) : W p l e R s m args below meth c H locs cells slots Q (F0 m pc ls (.ref (wad g 11) :: rest)) := 
  va_get (D := D) (ci := 2) (C := R_LE) (T := F_LE) (N := 8) hc.1 hc.2.1 hc.2.2.2.2 i_LE hc.2.2.2.1 hw.1 hw.2.1 11 (show (wl g F)[11]? = some (wad g 11, eLE g (F 11)) from wl_at (by omega)) rfl 1 (by decide) (hc.2.2.2.2 _ g_53) (fun _ h9 => h9) rfl hdg kk
theorem gf_AP_134 (hc : CallFix p m c cc nL s args gws R_AP) (hw : Wd D g F A H0 H locs s) (hdg : decode cc pc = .ok (.getfield 134, 3))
    (kk : W p l e R s m args below meth c H locs cells slots Q (F0 m (pc + 3) ls (.ref (wad g 13) :: rest))) : W p l e R s m args below meth c H locs cells slots Q (F0 m pc ls (.ref (wad g 11) :: rest)) := 
  va_get (D := D) (ci := 2) (C := R_LE) (T := F_LE) (N := 8) hc.1 hc.2.1 hc.2.2.2.2 i_LE hc.2.2.2.1 hw.1 hw.2.1 11 (show (wl g F)[11]? = some (wad g 11, eLE g (F 11)) from wl_at (by omega)) rfl 1 (by decide) (hc.2.2.2.2 _ g_54) (fun _ h9 => h9) rfl hdg kk
theorem gf_LE_18 (hc : CallFix p m c cc nL s args gws R_LE) (hw : Wd D g F A H0 H locs s) (hdg : decode cc pc = .ok (.getfield 18, 3))
    (kk : W p l e R s m args below meth c H locs cells slots Q (F0 m (pc + 3) ls (.ref (wad g 14) :: rest))) : W p l e R s m args below meth c H locs cells slots Q (F0 m pc ls (.ref (wad g 11) :: rest)) := 
  va_get (D := D) (ci := 2) (C := R_LE) (T := F_LE) (N := 8) hc.1 hc.2.1 hc.2.2.2.2 i_LE hc.2.2.2.1 hw.1 hw.2.1 11 (show (wl g F)[11]? = some (wad g 11, eLE g (F 11)) from wl_at (by omega)) rfl 2 (by decide) (hc.2.2.2.2 _ g_55) (fun _ h9 => h9) rfl hdg kk
theorem gf_AP_144 (hc : CallFix p m c cc nL s args gws R_AP) (hw : Wd D g F A H0 H locs s) (hdg : decode cc pc = .ok (.getfield 144, 3))
    (kk : W p l e R s m args below meth c H locs cells slots Q (F0 m (pc + 3) ls (.ref (wad g 14) :: rest))) : W p l e R s m args below meth c H locs cells slots Q (F0 m pc ls (.ref (wad g 11) :: rest)) := 
  va_get (D := D) (ci := 2) (C := R_LE) (T := F_LE) (N := 8) hc.1 hc.2.1 hc.2.2.2.2 i_LE hc.2.2.2.1 hw.1 hw.2.1 11 (show (wl g F)[11]? = some (wad g 11, eLE g (F 11)) from wl_at (by omega)) rfl 2 (by decide) (hc.2.2.2.2 _ g_56) (fun _ h9 => h9) rfl hdg kk
theorem gf_LE_21 (hc : CallFix p m c cc nL s args gws R_LE) (hw : Wd D g F A H0 H locs s) (hdg : decode cc pc = .ok (.getfield 21, 3))
    (kk : W p l e R s m args below meth c H locs cells slots Q (F0 m (pc + 3) ls (.ref (wad g 15) :: rest))) : W p l e R s m args below meth c H locs cells slots Q (F0 m pc ls (.ref (wad g 11) :: rest)) := 
  va_get (D := D) (ci := 2) (C := R_LE) (T := F_LE) (N := 8) hc.1 hc.2.1 hc.2.2.2.2 i_LE hc.2.2.2.1 hw.1 hw.2.1 11 (show (wl g F)[11]? = some (wad g 11, eLE g (F 11)) from wl_at (by omega)) rfl 3 (by decide) (hc.2.2.2.2 _ g_57) (fun _ h9 => h9) rfl hdg kk
theorem gf_AP_128 (hc : CallFix p m c cc nL s args gws R_AP) (hw : Wd D g F A H0 H locs s) (hdg : decode cc pc = .ok (.getfield 128, 3))
    (kk : W p l e R s m args below meth c H locs cells slots Q (F0 m (pc + 3) ls (.ref (wad g 15) :: rest))) : W p l e R s m args below meth c H locs cells slots Q (F0 m pc ls (.ref (wad g 11) :: rest)) := 
  va_get (D := D) (ci := 2) (C := R_LE) (T := F_LE) (N := 8) hc.1 hc.2.1 hc.2.2.2.2 i_LE hc.2.2.2.1 hw.1 hw.2.1 11 (show (wl g F)[11]? = some (wad g 11, eLE g (F 11)) from wl_at (by omega)) rfl 3 (by decide) (hc.2.2.2.2 _ g_58) (fun _ h9 => h9) rfl hdg kk
theorem gf_LE_24 (hc : CallFix p m c cc nL s args gws R_LE) (hw : Wd D g F A H0 H locs s) (hdg : decode cc pc = .ok (.getfield 24, 3))
    (kk : W p l e R s m args below meth c H locs cells slots Q (F0 m (pc + 3) ls (.ref (wad g 16) :: rest))) : W p l e R s m args below meth c H locs cells slots Q (F0 m pc ls (.ref (wad g 11) :: rest)) := 
  va_get (D := D) (ci := 2) (C := R_LE) (T := F_LE) (N := 8) hc.1 hc.2.1 hc.2.2.2.2 i_LE hc.2.2.2.1 hw.1 hw.2.1 11 (show (wl g F)[11]? = some (wad g 11, eLE g (F 11)) from wl_at (by omega)) rfl 4 (by decide) (hc.2.2.2.2 _ g_59) (fun _ h9 => h9) rfl hdg kk
theorem gf_AP_153 (hc : CallFix p m c cc nL s args gws R_AP) (hw : Wd D g F A H0 H locs s) (hdg : decode cc pc = .ok (.getfield 153, 3))
    (kk : W p l e R s m args below meth c H locs cells slots Q (F0 m (pc + 3) ls (.ref (wad g 16) :: rest))) : W p l e R s m args below meth c H locs cells slots Q (F0 m pc ls (.ref (wad g 11) :: rest)) := 
  va_get (D := D) (ci := 2) (C := R_LE) (T := F_LE) (N := 8) hc.1 hc.2.1 hc.2.2.2.2 i_LE hc.2.2.2.1 hw.1 hw.2.1 11 (show (wl g F)[11]? = some (wad g 11, eLE g (F 11)) from wl_at (by omega)) rfl 4 (by decide) (hc.2.2.2.2 _ g_60) (fun _ h9 => h9) rfl hdg kk
theorem gf_LE_27 (hc : CallFix p m c cc nL s args gws R_LE) (hw : Wd D g F A H0 H locs s) (hdg : decode cc pc = .ok (.getfield 27, 3))
    (kk : W p l e R s m args below meth c H locs cells slots Q (F0 m (pc + 3) ls (.ref (wad g 17) :: rest))) : W p l e R s m args below meth c H locs cells slots Q (F0 m pc ls (.ref (wad g 11) :: rest)) := 
  va_get (D := D) (ci := 2) (C := R_LE) (T := F_LE) (N := 8) hc.1 hc.2.1 hc.2.2.2.2 i_LE hc.2.2.2.1 hw.1 hw.2.1 11 (show (wl g F)[11]? = some (wad g 11, eLE g (F 11)) from wl_at (by omega)) rfl 5 (by decide) (hc.2.2.2.2 _ g_61) (fun _ h9 => h9) rfl hdg kk
theorem gf_AP_147 (hc : CallFix p m c cc nL s args gws R_AP) (hw : Wd D g F A H0 H locs s) (hdg : decode cc pc = .ok (.getfield 147, 3))
    (kk : W p l e R s m args below meth c H locs cells slots Q (F0 m (pc + 3) ls (.ref (wad g 17) :: rest))) : W p l e R s m args below meth c H locs cells slots Q (F0 m pc ls (.ref (wad g 11) :: rest)) := 
  va_get (D := D) (ci := 2) (C := R_LE) (T := F_LE) (N := 8) hc.1 hc.2.1 hc.2.2.2.2 i_LE hc.2.2.2.1 hw.1 hw.2.1 11 (show (wl g F)[11]? = some (wad g 11, eLE g (F 11)) from wl_at (by omega)) rfl 5 (by decide) (hc.2.2.2.2 _ g_62) (fun _ h9 => h9) rfl hdg kk
theorem gf_LE_30 (hc : CallFix p m c cc nL s args gws R_LE) (hw : Wd D g F A H0 H locs s) (hdg : decode cc pc = .ok (.getfield 30, 3))
    (kk : W p l e R s m args below meth c H locs cells slots Q (F0 m (pc + 3) ls (.ref (wad g 18) :: rest))) : W p l e R s m args below meth c H locs cells slots Q (F0 m pc ls (.ref (wad g 11) :: rest)) := 
  va_get (D := D) (ci := 2) (C := R_LE) (T := F_LE) (N := 8) hc.1 hc.2.1 hc.2.2.2.2 i_LE hc.2.2.2.1 hw.1 hw.2.1 11 (show (wl g F)[11]? = some (wad g 11, eLE g (F 11)) from wl_at (by omega)) rfl 6 (by decide) (hc.2.2.2.2 _ g_63) (fun _ h9 => h9) rfl hdg kk
theorem gf_AP_150 (hc : CallFix p m c cc nL s args gws R_AP) (hw : Wd D g F A H0 H locs s) (hdg : decode cc pc = .ok (.getfield 150, 3))
    (kk : W p l e R s m args below meth c H locs cells slots Q (F0 m (pc + 3) ls (.ref (wad g 18) :: rest))) : W p l e R s m args below meth c H locs cells slots Q (F0 m pc ls (.ref (wad g 11) :: rest)) := 
  va_get (D := D) (ci := 2) (C := R_LE) (T := F_LE) (N := 8) hc.1 hc.2.1 hc.2.2.2.2 i_LE hc.2.2.2.1 hw.1 hw.2.1 11 (show (wl g F)[11]? = some (wad g 11, eLE g (F 11)) from wl_at (by omega)) rfl 6 (by decide) (hc.2.2.2.2 _ g_64) (fun _ h9 => h9) rfl hdg kk
theorem gf_LE_33 (hc : CallFix p m c cc nL s args gws R_LE) (hw : Wd D g F A H0 H locs s) (hdg : decode cc pc = .ok (.getfield 33, 3)) {v : Value} (hv : .int (F 11 7) = v)
    (kk : W p l e R s m args below meth c H locs cells slots Q (F0 m (pc + 3) ls (v :: rest))) : W p l e R s m args below meth c H locs cells slots Q (F0 m pc ls (.ref (wad g 11) :: rest)) := 
  va_get (D := D) (ci := 2) (C := R_LE) (T := F_LE) (N := 8) hc.1 hc.2.1 hc.2.2.2.2 i_LE hc.2.2.2.1 hw.1 hw.2.1 11 (show (wl g F)[11]? = some (wad g 11, eLE g (F 11)) from wl_at (by omega)) rfl 7 (by decide) (hc.2.2.2.2 _ g_65) (fun _ h9 => h9) (congrArg some hv) hdg kk
theorem pf_LE_33 (hc : CallFix p m c cc nL s args gws R_LE) (hw : Wd D g F A H0 H locs s) (hdg : decode cc pc = .ok (.putfield 33, 3)) {x : Int32}
    (kk : ∀ (H1 : Heap) (locs1 : List Loc), Wd D g (u2 F 11 7 x) A H0 H1 locs1 s → W p l e R s m args below meth c H1 locs1 cells slots Q (F0 m (pc + 3) ls rest)) : W p l e R s m args below meth c H locs cells slots Q (F0 m pc ls (.int x :: .ref (wad g 11) :: rest)) := by
  obtain ⟨hK, hP, hD, hS, hA, hN⟩ := hw
  refine va_put (D := D) (ci := 2) (v := .int x) (ty := .int) (C := R_LE) (T := F_LE) (N := 8) hc.1 hc.2.1 hc.2.2.2.2 i_LE t_LE t_LE_ok n_LE hc.2.2.2.1 hK hP hD hS 11 (show (wl g F)[11]? = some (wad g 11, eLE g (F 11)) from wl_at (by omega)) rfl 7 (by decide) (hc.2.2.2.2 _ g_65) (fun _ h9 => h9) rfl (by decide +kernel) rfl rfl (Nat.le_of_ble_eq_true rfl) hdg (fun H1 locs1 hP hD hS => ?_)
  have e : wt g 11 (upd (F 11) 7 x) = eLE g (upd (F 11) 7 x) := rfl
  have e2 := wl_set (F := F) (F' := u2 F 11 7 x) (g := g) (h := 11) (by omega) u2_ne
  rw [u2_self, e] at e2
  exact kk H1 locs1 ⟨hK, e2 ▸ hP, e2 ▸ hD, hS, hA, hN⟩
theorem gf_AP_156 (hc : CallFix p m c cc nL s args gws R_AP) (hw : Wd D g F A H0 H locs s) (hdg : decode cc pc = .ok (.getfield 156, 3)) {v : Value} (hv : .int (F 11 7) = v)
    (kk : W p l e R s m args below meth c H locs cells slots Q (F0 m (pc + 3) ls (v :: rest))) : W p l e R s m args below meth c H locs cells slots Q (F0 m pc ls (.ref (wad g 11) :: rest)) := 
  va_get (D := D) (ci := 2) (C := R_LE) (T := F_LE) (N := 8) hc.1 hc.2.1 hc.2.2.2.2 i_LE hc.2.2.2.1 hw.1 hw.2.1 11 (show (wl g F)[11]? = some (wad g 11, eLE g (F 11)) from wl_at (by omega)) rfl 7 (by decide) (hc.2.2.2.2 _ g_66) (fun _ h9 => h9) (congrArg some hv) hdg kk
theorem pf_AP_156 (hc : CallFix p m c cc nL s args gws R_AP) (hw : Wd D g F A H0 H locs s) (hdg : decode cc pc = .ok (.putfield 156, 3)) {x : Int32}
    (kk : ∀ (H1 : Heap) (locs1 : List Loc), Wd D g (u2 F 11 7 x) A H0 H1 locs1 s → W p l e R s m args below meth c H1 locs1 cells slots Q (F0 m (pc + 3) ls rest)) : W p l e R s m args below meth c H locs cells slots Q (F0 m pc ls (.int x :: .ref (wad g 11) :: rest)) := by
  obtain ⟨hK, hP, hD, hS, hA, hN⟩ := hw
  refine va_put (D := D) (ci := 2) (v := .int x) (ty := .int) (C := R_LE) (T := F_LE) (N := 8) hc.1 hc.2.1 hc.2.2.2.2 i_LE t_LE t_LE_ok n_LE hc.2.2.2.1 hK hP hD hS 11 (show (wl g F)[11]? = some (wad g 11, eLE g (F 11)) from wl_at (by omega)) rfl 7 (by decide) (hc.2.2.2.2 _ g_66) (fun _ h9 => h9) rfl (by decide +kernel) rfl rfl (Nat.le_of_ble_eq_true rfl) hdg (fun H1 locs1 hP hD hS => ?_)
  have e : wt g 11 (upd (F 11) 7 x) = eLE g (upd (F 11) 7 x) := rfl
  have e2 := wl_set (F := F) (F' := u2 F 11 7 x) (g := g) (h := 11) (by omega) u2_ne
  rw [u2_self, e] at e2
  exact kk H1 locs1 ⟨hK, e2 ▸ hP, e2 ▸ hD, hS, hA, hN⟩
theorem gf_SE_9 (hc : CallFix p m c cc nL s args gws R_SE) (hw : Wd D g F A H0 H locs s) (hdg : decode cc pc = .ok (.getfield 9, 3))
    (kk : W p l e R s m args below meth c H locs cells slots Q (F0 m (pc + 3) ls (.ref (wad g 20) :: rest))) : W p l e R s m args below meth c H locs cells slots Q (F0 m pc ls (.ref (wad g 19) :: rest)) := 
  va_get (D := D) (ci := 3) (C := R_SE) (T := F_SE) (N := 4) hc.1 hc.2.1 hc.2.2.2.2 i_SE hc.2.2.2.1 hw.1 hw.2.1 19 (show (wl g F)[19]? = some (wad g 19, eSE g (F 19)) from wl_at (by omega)) rfl 0 (by decide) (hc.2.2.2.2 _ g_90) (fun _ h9 => h9) rfl hdg kk
theorem gf_SE_15 (hc : CallFix p m c cc nL s args gws R_SE) (hw : Wd D g F A H0 H locs s) (hdg : decode cc pc = .ok (.getfield 15, 3))
    (kk : W p l e R s m args below meth c H locs cells slots Q (F0 m (pc + 3) ls (.ref (wad g 21) :: rest))) : W p l e R s m args below meth c H locs cells slots Q (F0 m pc ls (.ref (wad g 19) :: rest)) := 
  va_get (D := D) (ci := 3) (C := R_SE) (T := F_SE) (N := 4) hc.1 hc.2.1 hc.2.2.2.2 i_SE hc.2.2.2.1 hw.1 hw.2.1 19 (show (wl g F)[19]? = some (wad g 19, eSE g (F 19)) from wl_at (by omega)) rfl 1 (by decide) (hc.2.2.2.2 _ g_91) (fun _ h9 => h9) rfl hdg kk
theorem gf_SE_18 (hc : CallFix p m c cc nL s args gws R_SE) (hw : Wd D g F A H0 H locs s) (hdg : decode cc pc = .ok (.getfield 18, 3))
    (kk : W p l e R s m args below meth c H locs cells slots Q (F0 m (pc + 3) ls (.ref (wad g 22) :: rest))) : W p l e R s m args below meth c H locs cells slots Q (F0 m pc ls (.ref (wad g 19) :: rest)) := 
  va_get (D := D) (ci := 3) (C := R_SE) (T := F_SE) (N := 4) hc.1 hc.2.1 hc.2.2.2.2 i_SE hc.2.2.2.1 hw.1 hw.2.1 19 (show (wl g F)[19]? = some (wad g 19, eSE g (F 19)) from wl_at (by omega)) rfl 2 (by decide) (hc.2.2.2.2 _ g_92) (fun _ h9 => h9) rfl hdg kk
theorem gf_SE_21 (hc : CallFix p m c cc nL s args gws R_SE) (hw : Wd D g F A H0 H locs s) (hdg : decode cc pc = .ok (.getfield 21, 3)) {v : Value} (hv : .int (F 19 3) = v)
    (kk : W p l e R s m args below meth c H locs cells slots Q (F0 m (pc + 3) ls (v :: rest))) : W p l e R s m args below meth c H locs cells slots Q (F0 m pc ls (.ref (wad g 19) :: rest)) := 
  va_get (D := D) (ci := 3) (C := R_SE) (T := F_SE) (N := 4) hc.1 hc.2.1 hc.2.2.2.2 i_SE hc.2.2.2.1 hw.1 hw.2.1 19 (show (wl g F)[19]? = some (wad g 19, eSE g (F 19)) from wl_at (by omega)) rfl 3 (by decide) (hc.2.2.2.2 _ g_93) (fun _ h9 => h9) (congrArg some hv) hdg kk
theorem pf_SE_21 (hc : CallFix p m c cc nL s args gws R_SE) (hw : Wd D g F A H0 H locs s) (hdg : decode cc pc = .ok (.putfield 21, 3)) {x : Int32}
    (kk : ∀ (H1 : Heap) (locs1 : List Loc), Wd D g (u2 F 19 3 x) A H0 H1 locs1 s → W p l e R s m args below meth c H1 locs1 cells slots Q (F0 m (pc + 3) ls rest)) : W p l e R s m args below meth c H locs cells slots Q (F0 m pc ls (.int x :: .ref (wad g 19) :: rest)) := by
  obtain ⟨hK, hP, hD, hS, hA, hN⟩ := hw
  refine va_put (D := D) (ci := 3) (v := .int x) (ty := .int) (C := R_SE) (T := F_SE) (N := 4) hc.1 hc.2.1 hc.2.2.2.2 i_SE t_SE t_SE_ok n_SE hc.2.2.2.1 hK hP hD hS 19 (show (wl g F)[19]? = some (wad g 19, eSE g (F 19)) from wl_at (by omega)) rfl 3 (by decide) (hc.2.2.2.2 _ g_93) (fun _ h9 => h9) rfl (by decide +kernel) rfl rfl (Nat.le_of_ble_eq_true rfl) hdg (fun H1 locs1 hP hD hS => ?_)
  have e : wt g 19 (upd (F 19) 3 x) = eSE g (upd (F 19) 3 x) := rfl
  have e2 := wl_set (F := F) (F' := u2 F 19 3 x) (g := g) (h := 19) (by omega) u2_ne
  rw [u2_self, e] at e2
  exact kk H1 locs1 ⟨hK, e2 ▸ hP, e2 ▸ hD, hS, hA, hN⟩
theorem gf_TU_11 (hc : CallFix p m c cc nL s args gws R_TU) (hw : Wd D g F A H0 H locs s) (hdg : decode cc pc = .ok (.getfield 11, 3))
    (kk : W p l e R s m args below meth c H locs cells slots Q (F0 m (pc + 3) ls (.ref (wad g 24) :: rest))) : W p l e R s m args below meth c H locs cells slots Q (F0 m pc ls (.ref (wad g 23) :: rest)) := 
  va_get (D := D) (ci := 4) (C := R_TU) (T := F_TU) (N := 11) hc.1 hc.2.1 hc.2.2.2.2 i_TU hc.2.2.2.1 hw.1 hw.2.1 23 (show (wl g F)[23]? = some (wad g 23, eTU g (F 23)) from wl_at (by omega)) rfl 0 (by decide) (hc.2.2.2.2 _ g_111) (fun _ h9 => h9) rfl hdg kk
theorem gf_TU_16 (hc : CallFix p m c cc nL s args gws R_TU) (hw : Wd D g F A H0 H locs s) (hdg : decode cc pc = .ok (.getfield 16, 3))
    (kk : W p l e R s m args below meth c H locs cells slots Q (F0 m (pc + 3) ls (.ref (wad g 33) :: rest))) : W p l e R s m args below meth c H locs cells slots Q (F0 m pc ls (.ref (wad g 23) :: rest)) := 
  va_get (D := D) (ci := 4) (C := R_TU) (T := F_TU) (N := 11) hc.1 hc.2.1 hc.2.2.2.2 i_TU hc.2.2.2.1 hw.1 hw.2.1 23 (show (wl g F)[23]? = some (wad g 23, eTU g (F 23)) from wl_at (by omega)) rfl 1 (by decide) (hc.2.2.2.2 _ g_112) (fun _ h9 => h9) rfl hdg kk
theorem gf_TU_19 (hc : CallFix p m c cc nL s args gws R_TU) (hw : Wd D g F A H0 H locs s) (hdg : decode cc pc = .ok (.getfield 19, 3))
    (kk : W p l e R s m args below meth c H locs cells slots Q (F0 m (pc + 3) ls (.ref (wad g 36) :: rest))) : W p l e R s m args below meth c H locs cells slots Q (F0 m pc ls (.ref (wad g 23) :: rest)) := 
  va_get (D := D) (ci := 4) (C := R_TU) (T := F_TU) (N := 11) hc.1 hc.2.1 hc.2.2.2.2 i_TU hc.2.2.2.1 hw.1 hw.2.1 23 (show (wl g F)[23]? = some (wad g 23, eTU g (F 23)) from wl_at (by omega)) rfl 2 (by decide) (hc.2.2.2.2 _ g_113) (fun _ h9 => h9) rfl hdg kk
theorem gf_TU_22 (hc : CallFix p m c cc nL s args gws R_TU) (hw : Wd D g F A H0 H locs s) (hdg : decode cc pc = .ok (.getfield 22, 3))
    (kk : W p l e R s m args below meth c H locs cells slots Q (F0 m (pc + 3) ls (.ref (wad g 39) :: rest))) : W p l e R s m args below meth c H locs cells slots Q (F0 m pc ls (.ref (wad g 23) :: rest)) := 
  va_get (D := D) (ci := 4) (C := R_TU) (T := F_TU) (N := 11) hc.1 hc.2.1 hc.2.2.2.2 i_TU hc.2.2.2.1 hw.1 hw.2.1 23 (show (wl g F)[23]? = some (wad g 23, eTU g (F 23)) from wl_at (by omega)) rfl 3 (by decide) (hc.2.2.2.2 _ g_114) (fun _ h9 => h9) rfl hdg kk
theorem gf_TU_25 (hc : CallFix p m c cc nL s args gws R_TU) (hw : Wd D g F A H0 H locs s) (hdg : decode cc pc = .ok (.getfield 25, 3))
    (kk : W p l e R s m args below meth c H locs cells slots Q (F0 m (pc + 3) ls (.ref (wad g 42) :: rest))) : W p l e R s m args below meth c H locs cells slots Q (F0 m pc ls (.ref (wad g 23) :: rest)) := 
  va_get (D := D) (ci := 4) (C := R_TU) (T := F_TU) (N := 11) hc.1 hc.2.1 hc.2.2.2.2 i_TU hc.2.2.2.1 hw.1 hw.2.1 23 (show (wl g F)[23]? = some (wad g 23, eTU g (F 23)) from wl_at (by omega)) rfl 4 (by decide) (hc.2.2.2.2 _ g_115) (fun _ h9 => h9) rfl hdg kk
theorem gf_TU_29 (hc : CallFix p m c cc nL s args gws R_TU) (hw : Wd D g F A H0 H locs s) (hdg : decode cc pc = .ok (.getfield 29, 3))
    (kk : W p l e R s m args below meth c H locs cells slots Q (F0 m (pc + 3) ls (.ref (wad g 43) :: rest))) : W p l e R s m args below meth c H locs cells slots Q (F0 m pc ls (.ref (wad g 23) :: rest)) := 
  va_get (D := D) (ci := 4) (C := R_TU) (T := F_TU) (N := 11) hc.1 hc.2.1 hc.2.2.2.2 i_TU hc.2.2.2.1 hw.1 hw.2.1 23 (show (wl g F)[23]? = some (wad g 23, eTU g (F 23)) from wl_at (by omega)) rfl 5 (by decide) (hc.2.2.2.2 _ g_116) (fun _ h9 => h9) rfl hdg kk
theorem gf_AP_193 (hc : CallFix p m c cc nL s args gws R_AP) (hw : Wd D g F A H0 H locs s) (hdg : decode cc pc = .ok (.getfield 193, 3))
    (kk : W p l e R s m args below meth c H locs cells slots Q (F0 m (pc + 3) ls (.ref (wad g 43) :: rest))) : W p l e R s m args below meth c H locs cells slots Q (F0 m pc ls (.ref (wad g 23) :: rest)) := 
  va_get (D := D) (ci := 4) (C := R_TU) (T := F_TU) (N := 11) hc.1 hc.2.1 hc.2.2.2.2 i_TU hc.2.2.2.1 hw.1 hw.2.1 23 (show (wl g F)[23]? = some (wad g 23, eTU g (F 23)) from wl_at (by omega)) rfl 5 (by decide) (hc.2.2.2.2 _ g_117) (fun _ h9 => h9) rfl hdg kk
theorem gf_TU_32 (hc : CallFix p m c cc nL s args gws R_TU) (hw : Wd D g F A H0 H locs s) (hdg : decode cc pc = .ok (.getfield 32, 3)) {v : Value} (hv : .int (F 23 6) = v)
    (kk : W p l e R s m args below meth c H locs cells slots Q (F0 m (pc + 3) ls (v :: rest))) : W p l e R s m args below meth c H locs cells slots Q (F0 m pc ls (.ref (wad g 23) :: rest)) := 
  va_get (D := D) (ci := 4) (C := R_TU) (T := F_TU) (N := 11) hc.1 hc.2.1 hc.2.2.2.2 i_TU hc.2.2.2.1 hw.1 hw.2.1 23 (show (wl g F)[23]? = some (wad g 23, eTU g (F 23)) from wl_at (by omega)) rfl 6 (by decide) (hc.2.2.2.2 _ g_118) (fun _ h9 => h9) (congrArg some hv) hdg kk
theorem pf_TU_32 (hc : CallFix p m c cc nL s args gws R_TU) (hw : Wd D g F A H0 H locs s) (hdg : decode cc pc = .ok (.putfield 32, 3)) {x : Int32}
    (kk : ∀ (H1 : Heap) (locs1 : List Loc), Wd D g (u2 F 23 6 x) A H0 H1 locs1 s → W p l e R s m args below meth c H1 locs1 cells slots Q (F0 m (pc + 3) ls rest)) : W p l e R s m args below meth c H locs cells slots Q (F0 m pc ls (.int x :: .ref (wad g 23) :: rest)) := by
  obtain ⟨hK, hP, hD, hS, hA, hN⟩ := hw
  refine va_put (D := D) (ci := 4) (v := .int x) (ty := .int) (C := R_TU) (T := F_TU) (N := 11) hc.1 hc.2.1 hc.2.2.2.2 i_TU t_TU t_TU_ok n_TU hc.2.2.2.1 hK hP hD hS 23 (show (wl g F)[23]? = some (wad g 23, eTU g (F 23)) from wl_at (by omega)) rfl 6 (by decide) (hc.2.2.2.2 _ g_118) (fun _ h9 => h9) rfl (by decide +kernel) rfl rfl (Nat.le_of_ble_eq_true rfl) hdg (fun H1 locs1 hP hD hS => ?_)
  have e : wt g 23 (upd (F 23) 6 x) = eTU g (upd (F 23) 6 x) := rfl
  have e2 := wl_set (F := F) (F' := u2 F 23 6 x) (g := g) (h := 23) (by omega) u2_ne
  rw [u2_self, e] at e2
  exact kk H1 locs1 ⟨hK, e2 ▸ hP, e2 ▸ hD, hS, hA, hN⟩
theorem gf_TU_36 (hc : CallFix p m c cc nL s args gws R_TU) (hw : Wd D g F A H0 H locs s) (hdg : decode cc pc = .ok (.getfield 36, 3)) {v : Value} (hv : .int (F 23 7) = v)
    (kk : W p l e R s m args below meth c H locs cells slots Q (F0 m (pc + 3) ls (v :: rest))) : W p l e R s m args below meth c H locs cells slots Q (F0 m pc ls (.ref (wad g 23) :: rest)) := 
  va_get (D := D) (ci := 4) (C := R_TU) (T := F_TU) (N := 11) hc.1 hc.2.1 hc.2.2.2.2 i_TU hc.2.2.2.1 hw.1 hw.2.1 23 (show (wl g F)[23]? = some (wad g 23, eTU g (F 23)) from wl_at (by omega)) rfl 7 (by decide) (hc.2.2.2.2 _ g_119) (fun _ h9 => h9) (congrArg some hv) hdg kk
theorem pf_TU_36 (hc : CallFix p m c cc nL s args gws R_TU) (hw : Wd D g F A H0 H locs s) (hdg : decode cc pc = .ok (.putfield 36, 3)) {x : Int32}
    (kk : ∀ (H1 : Heap) (locs1 : List Loc), Wd D g (u2 F 23 7 x) A H0 H1 locs1 s → W p l e R s m args below meth c H1 locs1 cells slots Q (F0 m (pc + 3) ls rest)) : W p l e R s m args below meth c H locs cells slots Q (F0 m pc ls (.int x :: .ref (wad g 23) :: rest)) := by
  obtain ⟨hK, hP, hD, hS, hA, hN⟩ := hw
  refine va_put (D := D) (ci := 4) (v := .int x) (ty := .int) (C := R_TU) (T := F_TU) (N := 11) hc.1 hc.2.1 hc.2.2.2.2 i_TU t_TU t_TU_ok n_TU hc.2.2.2.1 hK hP hD hS 23 (show (wl g F)[23]? = some (wad g 23, eTU g (F 23)) from wl_at (by omega)) rfl 7 (by decide) (hc.2.2.2.2 _ g_119) (fun _ h9 => h9) rfl (by decide +kernel) rfl rfl (Nat.le_of_ble_eq_true rfl) hdg (fun H1 locs1 hP hD hS => ?_)
  have e : wt g 23 (upd (F 23) 7 x) = eTU g (upd (F 23) 7 x) := rfl
  have e2 := wl_set (F := F) (F' := u2 F 23 7 x) (g := g) (h := 23) (by omega) u2_ne
  rw [u2_self, e] at e2
  exact kk H1 locs1 ⟨hK, e2 ▸ hP, e2 ▸ hD, hS, hA, hN⟩
theorem gf_TU_75 (hc : CallFix p m c cc nL s args gws R_TU) (hw : Wd D g F A H0 H locs s) (hdg : decode cc pc = .ok (.getfield 75, 3)) {v : Value} (hv : .int (F 23 8) = v)
    (kk : W p l e R s m args below meth c H locs cells slots Q (F0 m (pc + 3) ls (v :: rest))) : W p l e R s m args below meth c H locs cells slots Q (F0 m pc ls (.ref (wad g 23) :: rest)) := 
  va_get (D := D) (ci := 4) (C := R_TU) (T := F_TU) (N := 11) hc.1 hc.2.1 hc.2.2.2.2 i_TU hc.2.2.2.1 hw.1 hw.2.1 23 (show (wl g F)[23]? = some (wad g 23, eTU g (F 23)) from wl_at (by omega)) rfl 8 (by decide) (hc.2.2.2.2 _ g_120) (fun _ h9 => h9) (congrArg some hv) hdg kk
theorem pf_TU_75 (hc : CallFix p m c cc nL s args gws R_TU) (hw : Wd D g F A H0 H locs s) (hdg : decode cc pc = .ok (.putfield 75, 3)) {x : Int32}
    (kk : ∀ (H1 : Heap) (locs1 : List Loc), Wd D g (u2 F 23 8 x) A H0 H1 locs1 s → W p l e R s m args below meth c H1 locs1 cells slots Q (F0 m (pc + 3) ls rest)) : W p l e R s m args below meth c H locs cells slots Q (F0 m pc ls (.int x :: .ref (wad g 23) :: rest)) := by
  obtain ⟨hK, hP, hD, hS, hA, hN⟩ := hw
  refine va_put (D := D) (ci := 4) (v := .int x) (ty := .int) (C := R_TU) (T := F_TU) (N := 11) hc.1 hc.2.1 hc.2.2.2.2 i_TU t_TU t_TU_ok n_TU hc.2.2.2.1 hK hP hD hS 23 (show (wl g F)[23]? = some (wad g 23, eTU g (F 23)) from wl_at (by omega)) rfl 8 (by decide) (hc.2.2.2.2 _ g_120) (fun _ h9 => h9) rfl (by decide +kernel) rfl rfl (Nat.le_of_ble_eq_true rfl) hdg (fun H1 locs1 hP hD hS => ?_)
  have e : wt g 23 (upd (F 23) 8 x) = eTU g (upd (F 23) 8 x) := rfl
  have e2 := wl_set (F := F) (F' := u2 F 23 8 x) (g := g) (h := 23) (by omega) u2_ne
  rw [u2_self, e] at e2
  exact kk H1 locs1 ⟨hK, e2 ▸ hP, e2 ▸ hD, hS, hA, hN⟩
theorem gf_AP_190 (hc : CallFix p m c cc nL s args gws R_AP) (hw : Wd D g F A H0 H locs s) (hdg : decode cc pc = .ok (.getfield 190, 3)) {v : Value} (hv : .int (F 23 8) = v)
    (kk : W p l e R s m args below meth c H locs cells slots Q (F0 m (pc + 3) ls (v :: rest))) : W p l e R s m args below meth c H locs cells slots Q (F0 m pc ls (.ref (wad g 23) :: rest)) := 
  va_get (D := D) (ci := 4) (C := R_TU) (T := F_TU) (N := 11) hc.1 hc.2.1 hc.2.2.2.2 i_TU hc.2.2.2.1 hw.1 hw.2.1 23 (show (wl g F)[23]? = some (wad g 23, eTU g (F 23)) from wl_at (by omega)) rfl 8 (by decide) (hc.2.2.2.2 _ g_121) (fun _ h9 => h9) (congrArg some hv) hdg kk
theorem pf_AP_190 (hc : CallFix p m c cc nL s args gws R_AP) (hw : Wd D g F A H0 H locs s) (hdg : decode cc pc = .ok (.putfield 190, 3)) {x : Int32}
    (kk : ∀ (H1 : Heap) (locs1 : List Loc), Wd D g (u2 F 23 8 x) A H0 H1 locs1 s → W p l e R s m args below meth c H1 locs1 cells slots Q (F0 m (pc + 3) ls rest)) : W p l e R s m args below meth c H locs cells slots Q (F0 m pc ls (.int x :: .ref (wad g 23) :: rest)) := by
  obtain ⟨hK, hP, hD, hS, hA, hN⟩ := hw
  refine va_put (D := D) (ci := 4) (v := .int x) (ty := .int) (C := R_TU) (T := F_TU) (N := 11) hc.1 hc.2.1 hc.2.2.2.2 i_TU t_TU t_TU_ok n_TU hc.2.2.2.1 hK hP hD hS 23 (show (wl g F)[23]? = some (wad g 23, eTU g (F 23)) from wl_at (by omega)) rfl 8 (by decide) (hc.2.2.2.2 _ g_121) (fun _ h9 => h9) rfl (by decide +kernel) rfl rfl (Nat.le_of_ble_eq_true rfl) hdg (fun H1 locs1 hP hD hS => ?_)
  have e : wt g 23 (upd (F 23) 8 x) = eTU g (upd (F 23) 8 x) := rfl
  have e2 := wl_set (F := F) (F' := u2 F 23 8 x) (g := g) (h := 23) (by omega) u2_ne
  rw [u2_self, e] at e2
  exact kk H1 locs1 ⟨hK, e2 ▸ hP, e2 ▸ hD, hS, hA, hN⟩
theorem gf_TU_69 (hc : CallFix p m c cc nL s args gws R_TU) (hw : Wd D g F A H0 H locs s) (hdg : decode cc pc = .ok (.getfield 69, 3)) {v : Value} (hv : .int (F 23 9) = v)
    (kk : W p l e R s m args below meth c H locs cells slots Q (F0 m (pc + 3) ls (v :: rest))) : W p l e R s m args below meth c H locs cells slots Q (F0 m pc ls (.ref (wad g 23) :: rest)) := 
  va_get (D := D) (ci := 4) (C := R_TU) (T := F_TU) (N := 11) hc.1 hc.2.1 hc.2.2.2.2 i_TU hc.2.2.2.1 hw.1 hw.2.1 23 (show (wl g F)[23]? = some (wad g 23, eTU g (F 23)) from wl_at (by omega)) rfl 9 (by decide) (hc.2.2.2.2 _ g_122) (fun _ h9 => h9) (congrArg some hv) hdg kk
theorem pf_TU_69 (hc : CallFix p m c cc nL s args gws R_TU) (hw : Wd D g F A H0 H locs s) (hdg : decode cc pc = .ok (.putfield 69, 3)) {x : Int32}
    (kk : ∀ (H1 : Heap) (locs1 : List Loc), Wd D g (u2 F 23 9 x) A H0 H1 locs1 s → W p l e R s m args below meth c H1 locs1 cells slots Q (F0 m (pc + 3) ls rest)) : W p l e R s m args below meth c H locs cells slots Q (F0 m pc ls (.int x :: .ref (wad g 23) :: rest)) := by
  obtain ⟨hK, hP, hD, hS, hA, hN⟩ := hw
  refine va_put (D := D) (ci := 4) (v := .int x) (ty := .int) (C := R_TU) (T := F_TU) (N := 11) hc.1 hc.2.1 hc.2.2.2.2 i_TU t_TU t_TU_ok n_TU hc.2.2.2.1 hK hP hD hS 23 (show (wl g F)[23]? = some (wad g 23, eTU g (F 23)) from wl_at (by omega)) rfl 9 (by decide) (hc.2.2.2.2 _ g_122) (fun _ h9 => h9) rfl (by decide +kernel) rfl rfl (Nat.le_of_ble_eq_true rfl) hdg (fun H1 locs1 hP hD hS => ?_)
  have e : wt g 23 (upd (F 23) 9 x) = eTU g (upd (F 23) 9 x) := rfl
  have e2 := wl_set (F := F) (F' := u2 F 23 9 x) (g := g) (h := 23) (by omega) u2_ne
  rw [u2_self, e] at e2
  exact kk H1 locs1 ⟨hK, e2 ▸ hP, e2 ▸ hD, hS, hA, hN⟩
theorem gf_AP_196 (hc : CallFix p m c cc nL s args gws R_AP) (hw : Wd D g F A H0 H locs s) (hdg : decode cc pc = .ok (.getfield 196, 3)) {v : Value} (hv : .int (F 23 9) = v)
    (kk : W p l e R s m args below meth c H locs cells slots Q (F0 m (pc + 3) ls (v :: rest))) : W p l e R s m args below meth c H locs cells slots Q (F0 m pc ls (.ref (wad g 23) :: rest)) := 
  va_get (D := D) (ci := 4) (C := R_TU) (T := F_TU) (N := 11) hc.1 hc.2.1 hc.2.2.2.2 i_TU hc.2.2.2.1 hw.1 hw.2.1 23 (show (wl g F)[23]? = some (wad g 23, eTU g (F 23)) from wl_at (by omega)) rfl 9 (by decide) (hc.2.2.2.2 _ g_123) (fun _ h9 => h9) (congrArg some hv) hdg kk
theorem pf_AP_196 (hc : CallFix p m c cc nL s args gws R_AP) (hw : Wd D g F A H0 H locs s) (hdg : decode cc pc = .ok (.putfield 196, 3)) {x : Int32}
    (kk : ∀ (H1 : Heap) (locs1 : List Loc), Wd D g (u2 F 23 9 x) A H0 H1 locs1 s → W p l e R s m args below meth c H1 locs1 cells slots Q (F0 m (pc + 3) ls rest)) : W p l e R s m args below meth c H locs cells slots Q (F0 m pc ls (.int x :: .ref (wad g 23) :: rest)) := by
  obtain ⟨hK, hP, hD, hS, hA, hN⟩ := hw
  refine va_put (D := D) (ci := 4) (v := .int x) (ty := .int) (C := R_TU) (T := F_TU) (N := 11) hc.1 hc.2.1 hc.2.2.2.2 i_TU t_TU t_TU_ok n_TU hc.2.2.2.1 hK hP hD hS 23 (show (wl g F)[23]? = some (wad g 23, eTU g (F 23)) from wl_at (by omega)) rfl 9 (by decide) (hc.2.2.2.2 _ g_123) (fun _ h9 => h9) rfl (by decide +kernel) rfl rfl (Nat.le_of_ble_eq_true rfl) hdg (fun H1 locs1 hP hD hS => ?_)
  have e : wt g 23 (upd (F 23) 9 x) = eTU g (upd (F 23) 9 x) := rfl
  have e2 := wl_set (F := F) (F' := u2 F 23 9 x) (g := g) (h := 23) (by omega) u2_ne
  rw [u2_self, e] at e2
  exact kk H1 locs1 ⟨hK, e2 ▸ hP, e2 ▸ hD, hS, hA, hN⟩
theorem gf_TU_72 (hc : CallFix p m c cc nL s args gws R_TU) (hw : Wd D g F A H0 H locs s) (hdg : decode cc pc = .ok (.getfield 72, 3)) {v : Value} (hv : .int (F 23 10) = v)
    (kk : W p l e R s m args below meth c H locs cells slots Q (F0 m (pc + 3) ls (v :: rest))) : W p l e R s m args below meth c H locs cells slots Q (F0 m pc ls (.ref (wad g 23) :: rest)) := 
  va_get (D := D) (ci := 4) (C := R_TU) (T := F_TU) (N := 11) hc.1 hc.2.1 hc.2.2.2.2 i_TU hc.2.2.2.1 hw.1 hw.2.1 23 (show (wl g F)[23]? = some (wad g 23, eTU g (F 23)) from wl_at (by omega)) rfl 10 (by decide) (hc.2.2.2.2 _ g_124) (fun _ h9 => h9) (congrArg some hv) hdg kk
theorem pf_TU_72 (hc : CallFix p m c cc nL s args gws R_TU) (hw : Wd D g F A H0 H locs s) (hdg : decode cc pc = .ok (.putfield 72, 3)) {x : Int32}
    (kk : ∀ (H1 : Heap) (locs1 : List Loc), Wd D g (u2 F 23 10 x) A H0 H1 locs1 s → W p l e R s m args below meth c H1 locs1 cells slots Q (F0 m (pc + 3) ls rest)) : W p l e R s m args below meth c H locs cells slots Q (F0 m pc ls (.int x :: .ref (wad g 23) :: rest)) := by
  obtain ⟨hK, hP, hD, hS, hA, hN⟩ := hw
  refine va_put (D := D) (ci := 4) (v := .int x) (ty := .int) (C := R_TU) (T := F_TU) (N := 11) hc.1 hc.2.1 hc.2.2.2.2 i_TU t_TU t_TU_ok n_TU hc.2.2.2.1 hK hP hD hS 23 (show (wl g F)[23]? = some (wad g 23, eTU g (F 23)) from wl_at (by omega)) rfl 10 (by decide) (hc.2.2.2.2 _ g_124) (fun _ h9 => h9) rfl (by decide +kernel) rfl rfl (Nat.le_of_ble_eq_true rfl) hdg (fun H1 locs1 hP hD hS => ?_)
  have e : wt g 23 (upd (F 23) 10 x) = eTU g (upd (F 23) 10 x) := rfl
  have e2 := wl_set (F := F) (F' := u2 F 23 10 x) (g := g) (h := 23) (by omega) u2_ne
  rw [u2_self, e] at e2
  exact kk H1 locs1 ⟨hK, e2 ▸ hP, e2 ▸ hD, hS, hA, hN⟩
theorem gf_AP_199 (hc : CallFix p m c cc nL s args gws R_AP) (hw : Wd D g F A H0 H locs s) (hdg : decode cc pc = .ok (.getfield 199, 3)) {v : Value} (hv : .int (F 23 10) = v)
    (kk : W p l e R s m args below meth c H locs cells slots Q (F0 m (pc + 3) ls (v :: rest))) : W p l e R s m args below meth c H locs cells slots Q (F0 m pc ls (.ref (wad g 23) :: rest)) := 
  va_get (D := D) (ci := 4) (C := R_TU) (T := F_TU) (N := 11) hc.1 hc.2.1 hc.2.2.2.2 i_TU hc.2.2.2.1 hw.1 hw.2.1 23 (show (wl g F)[23]? = some (wad g 23, eTU g (F 23)) from wl_at (by omega)) rfl 10 (by decide) (hc.2.2.2.2 _ g_125) (fun _ h9 => h9) (congrArg some hv) hdg kk
theorem pf_AP_199 (hc : CallFix p m c cc nL s args gws R_AP) (hw : Wd D g F A H0 H locs s) (hdg : decode cc pc = .ok (.putfield 199, 3)) {x : Int32}
    (kk : ∀ (H1 : Heap) (locs1 : List Loc), Wd D g (u2 F 23 10 x) A H0 H1 locs1 s → W p l e R s m args below meth c H1 locs1 cells slots Q (F0 m (pc + 3) ls rest)) : W p l e R s m args below meth c H locs cells slots Q (F0 m pc ls (.int x :: .ref (wad g 23) :: rest)) := by
  obtain ⟨hK, hP, hD, hS, hA, hN⟩ := hw
  refine va_put (D := D) (ci := 4) (v := .int x) (ty := .int) (C := R_TU) (T := F_TU) (N := 11) hc.1 hc.2.1 hc.2.2.2.2 i_TU t_TU t_TU_ok n_TU hc.2.2.2.1 hK hP hD hS 23 (show (wl g F)[23]? = some (wad g 23, eTU g (F 23)) from wl_at (by omega)) rfl 10 (by decide) (hc.2.2.2.2 _ g_125) (fun _ h9 => h9) rfl (by decide +kernel) rfl rfl (Nat.le_of_ble_eq_true rfl) hdg (fun H1 locs1 hP hD hS => ?_)
  have e : wt g 23 (upd (F 23) 10 x) = eTU g (upd (F 23) 10 x) := rfl
  have e2 := wl_set (F := F) (F' := u2 F 23 10 x) (g := g) (h := 23) (by omega) u2_ne
  rw [u2_self, e] at e2
  exact kk H1 locs1 ⟨hK, e2 ▸ hP, e2 ▸ hD, hS, hA, hN⟩
theorem gf_PA_11 (hc : CallFix p m c cc nL s args gws R_PA) (hw : Wd D g F A H0 H locs s) (hdg : decode cc pc = .ok (.getfield 11, 3))
    (kk : W p l e R s m args below meth c H locs cells slots Q (F0 m (pc + 3) ls (.ref (wad g 45) :: rest))) : W p l e R s m args below meth c H locs cells slots Q (F0 m pc ls (.ref (wad g 44) :: rest)) := 
  va_get (D := D) (ci := 5) (C := R_PA) (T := F_PA) (N := 5) hc.1 hc.2.1 hc.2.2.2.2 i_PA hc.2.2.2.1 hw.1 hw.2.1 44 (show (wl g F)[44]? = some (wad g 44, ePA g (F 44)) from wl_at (by omega)) rfl 0 (by decide) (hc.2.2.2.2 _ g_156) (fun _ h9 => h9) rfl hdg kk
theorem gf_PA_16 (hc : CallFix p m c cc nL s args gws R_PA) (hw : Wd D g F A H0 H locs s) (hdg : decode cc pc = .ok (.getfield 16, 3))
    (kk : W p l e R s m args below meth c H locs cells slots Q (F0 m (pc + 3) ls (.ref (wad g 52) :: rest))) : W p l e R s m args below meth c H locs cells slots Q (F0 m pc ls (.ref (wad g 44) :: rest)) := 
  va_get (D := D) (ci := 5) (C := R_PA) (T := F_PA) (N := 5) hc.1 hc.2.1 hc.2.2.2.2 i_PA hc.2.2.2.1 hw.1 hw.2.1 44 (show (wl g F)[44]? = some (wad g 44, ePA g (F 44)) from wl_at (by omega)) rfl 1 (by decide) (hc.2.2.2.2 _ g_157) (fun _ h9 => h9) rfl hdg kk
theorem gf_PA_19 (hc : CallFix p m c cc nL s args gws R_PA) (hw : Wd D g F A H0 H locs s) (hdg : decode cc pc = .ok (.getfield 19, 3))
    (kk : W p l e R s m args below meth c H locs cells slots Q (F0 m (pc + 3) ls (.ref (wad g 55) :: rest))) : W p l e R s m args below meth c H locs cells slots Q (F0 m pc ls (.ref (wad g 44) :: rest)) := 
  va_get (D := D) (ci := 5) (C := R_PA) (T := F_PA) (N := 5) hc.1 hc.2.1 hc.2.2.2.2 i_PA hc.2.2.2.1 hw.1 hw.2.1 44 (show (wl g F)[44]? = some (wad g 44, ePA g (F 44)) from wl_at (by omega)) rfl 2 (by decide) (hc.2.2.2.2 _ g_158) (fun _ h9 => h9) rfl hdg kk
theorem gf_PA_23 (hc : CallFix p m c cc nL s args gws R_PA) (hw : Wd D g F A H0 H locs s) (hdg : decode cc pc = .ok (.getfield 23, 3))
    (kk : W p l e R s m args below meth c H locs cells slots Q (F0 m (pc + 3) ls (.ref (wad g 56) :: rest))) : W p l e R s m args below meth c H locs cells slots Q (F0 m pc ls (.ref (wad g 44) :: rest)) := 
  va_get (D := D) (ci := 5) (C := R_PA) (T := F_PA) (N := 5) hc.1 hc.2.1 hc.2.2.2.2 i_PA hc.2.2.2.1 hw.1 hw.2.1 44 (show (wl g F)[44]? = some (wad g 44, ePA g (F 44)) from wl_at (by omega)) rfl 3 (by decide) (hc.2.2.2.2 _ g_159) (fun _ h9 => h9) rfl hdg kk
theorem gf_AP_213 (hc : CallFix p m c cc nL s args gws R_AP) (hw : Wd D g F A H0 H locs s) (hdg : decode cc pc = .ok (.getfield 213, 3))
    (kk : W p l e R s m args below meth c H locs cells slots Q (F0 m (pc + 3) ls (.ref (wad g 56) :: rest))) : W p l e R s m args below meth c H locs cells slots Q (F0 m pc ls (.ref (wad g 44) :: rest)) := 
  va_get (D := D) (ci := 5) (C := R_PA) (T := F_PA) (N := 5) hc.1 hc.2.1 hc.2.2.2.2 i_PA hc.2.2.2.1 hw.1 hw.2.1 44 (show (wl g F)[44]? = some (wad g 44, ePA g (F 44)) from wl_at (by omega)) rfl 3 (by decide) (hc.2.2.2.2 _ g_160) (fun _ h9 => h9) rfl hdg kk
theorem gf_PA_40 (hc : CallFix p m c cc nL s args gws R_PA) (hw : Wd D g F A H0 H locs s) (hdg : decode cc pc = .ok (.getfield 40, 3)) {v : Value} (hv : .int (F 44 4) = v)
    (kk : W p l e R s m args below meth c H locs cells slots Q (F0 m (pc + 3) ls (v :: rest))) : W p l e R s m args below meth c H locs cells slots Q (F0 m pc ls (.ref (wad g 44) :: rest)) := 
  va_get (D := D) (ci := 5) (C := R_PA) (T := F_PA) (N := 5) hc.1 hc.2.1 hc.2.2.2.2 i_PA hc.2.2.2.1 hw.1 hw.2.1 44 (show (wl g F)[44]? = some (wad g 44, ePA g (F 44)) from wl_at (by omega)) rfl 4 (by decide) (hc.2.2.2.2 _ g_161) (fun _ h9 => h9) (congrArg some hv) hdg kk
theorem pf_PA_40 (hc : CallFix p m c cc nL s args gws R_PA) (hw : Wd D g F A H0 H locs s) (hdg : decode cc pc = .ok (.putfield 40, 3)) {x : Int32}
    (kk : ∀ (H1 : Heap) (locs1 : List Loc), Wd D g (u2 F 44 4 x) A H0 H1 locs1 s → W p l e R s m args below meth c H1 locs1 cells slots Q (F0 m (pc + 3) ls rest)) : W p l e R s m args below meth c H locs cells slots Q (F0 m pc ls (.int x :: .ref (wad g 44) :: rest)) := by
  obtain ⟨hK, hP, hD, hS, hA, hN⟩ := hw
  refine va_put (D := D) (ci := 5) (v := .int x) (ty := .int) (C := R_PA) (T := F_PA) (N := 5) hc.1 hc.2.1 hc.2.2.2.2 i_PA t_PA t_PA_ok n_PA hc.2.2.2.1 hK hP hD hS 44 (show (wl g F)[44]? = some (wad g 44, ePA g (F 44)) from wl_at (by omega)) rfl 4 (by decide) (hc.2.2.2.2 _ g_161) (fun _ h9 => h9) rfl (by decide +kernel) rfl rfl (Nat.le_of_ble_eq_true rfl) hdg (fun H1 locs1 hP hD hS => ?_)
  have e : wt g 44 (upd (F 44) 4 x) = ePA g (upd (F 44) 4 x) := rfl
  have e2 := wl_set (F := F) (F' := u2 F 44 4 x) (g := g) (h := 44) (by omega) u2_ne
  rw [u2_self, e] at e2
  exact kk H1 locs1 ⟨hK, e2 ▸ hP, e2 ▸ hD, hS, hA, hN⟩
theorem gf_AP_210 (hc : CallFix p m c cc nL s args gws R_AP) (hw : Wd D g F A H0 H locs s) (hdg : decode cc pc = .ok (.getfield 210, 3)) {v : Value} (hv : .int (F 44 4) = v)
    (kk : W p l e R s m args below meth c H locs cells slots Q (F0 m (pc + 3) ls (v :: rest))) : W p l e R s m args below meth c H locs cells slots Q (F0 m pc ls (.ref (wad g 44) :: rest)) := 
  va_get (D := D) (ci := 5) (C := R_PA) (T := F_PA) (N := 5) hc.1 hc.2.1 hc.2.2.2.2 i_PA hc.2.2.2.1 hw.1 hw.2.1 44 (show (wl g F)[44]? = some (wad g 44, ePA g (F 44)) from wl_at (by omega)) rfl 4 (by decide) (hc.2.2.2.2 _ g_162) (fun _ h9 => h9) (congrArg some hv) hdg kk
theorem pf_AP_210 (hc : CallFix p m c cc nL s args gws R_AP) (hw : Wd D g F A H0 H locs s) (hdg : decode cc pc = .ok (.putfield 210, 3)) {x : Int32}
    (kk : ∀ (H1 : Heap) (locs1 : List Loc), Wd D g (u2 F 44 4 x) A H0 H1 locs1 s → W p l e R s m args below meth c H1 locs1 cells slots Q (F0 m (pc + 3) ls rest)) : W p l e R s m args below meth c H locs cells slots Q (F0 m pc ls (.int x :: .ref (wad g 44) :: rest)) := by
  obtain ⟨hK, hP, hD, hS, hA, hN⟩ := hw
  refine va_put (D := D) (ci := 5) (v := .int x) (ty := .int) (C := R_PA) (T := F_PA) (N := 5) hc.1 hc.2.1 hc.2.2.2.2 i_PA t_PA t_PA_ok n_PA hc.2.2.2.1 hK hP hD hS 44 (show (wl g F)[44]? = some (wad g 44, ePA g (F 44)) from wl_at (by omega)) rfl 4 (by decide) (hc.2.2.2.2 _ g_162) (fun _ h9 => h9) rfl (by decide +kernel) rfl rfl (Nat.le_of_ble_eq_true rfl) hdg (fun H1 locs1 hP hD hS => ?_)
  have e : wt g 44 (upd (F 44) 4 x) = ePA g (upd (F 44) 4 x) := rfl
  have e2 := wl_set (F := F) (F' := u2 F 44 4 x) (g := g) (h := 44) (by omega) u2_ne
  rw [u2_self, e] at e2
  exact kk H1 locs1 ⟨hK, e2 ▸ hP, e2 ▸ hD, hS, hA, hN⟩
theorem gf_TR_7 (hc : CallFix p m c cc nL s args gws R_TR) (hw : Wd D g F A H0 H locs s) (hdg : decode cc pc = .ok (.getfield 7, 3)) {v : Value} (hv : .int (F 57 0) = v)
    (kk : W p l e R s m args below meth c H locs cells slots Q (F0 m (pc + 3) ls (v :: rest))) : W p l e R s m args below meth c H locs cells slots Q (F0 m pc ls (.ref (wad g 57) :: rest)) := 
  va_get (D := D) (ci := 6) (C := R_TR) (T := F_TR) (N := 1) hc.1 hc.2.1 hc.2.2.2.2 i_TR hc.2.2.2.1 hw.1 hw.2.1 57 (show (wl g F)[57]? = some (wad g 57, eTR (F 57)) from wl_at (by omega)) rfl 0 (by decide) (hc.2.2.2.2 _ g_180) (fun _ h9 => h9) (congrArg some hv) hdg kk
theorem pf_TR_7 (hc : CallFix p m c cc nL s args gws R_TR) (hw : Wd D g F A H0 H locs s) (hdg : decode cc pc = .ok (.putfield 7, 3)) {x : Int32}
    (kk : ∀ (H1 : Heap) (locs1 : List Loc), Wd D g (u2 F 57 0 x) A H0 H1 locs1 s → W p l e R s m args below meth c H1 locs1 cells slots Q (F0 m (pc + 3) ls rest)) : W p l e R s m args below meth c H locs cells slots Q (F0 m pc ls (.int x :: .ref (wad g 57) :: rest)) := by
  obtain ⟨hK, hP, hD, hS, hA, hN⟩ := hw
  refine va_put (D := D) (ci := 6) (v := .int x) (ty := .int) (C := R_TR) (T := F_TR) (N := 1) hc.1 hc.2.1 hc.2.2.2.2 i_TR t_TR t_TR_ok n_TR hc.2.2.2.1 hK hP hD hS 57 (show (wl g F)[57]? = some (wad g 57, eTR (F 57)) from wl_at (by omega)) rfl 0 (by decide) (hc.2.2.2.2 _ g_180) (fun _ h9 => h9) rfl (by decide +kernel) rfl rfl (Nat.le_of_ble_eq_true rfl) hdg (fun H1 locs1 hP hD hS => ?_)
  have e : wt g 57 (upd (F 57) 0 x) = eTR (upd (F 57) 0 x) := rfl
  have e2 := wl_set (F := F) (F' := u2 F 57 0 x) (g := g) (h := 57) (by omega) u2_ne
  rw [u2_self, e] at e2
  exact kk H1 locs1 ⟨hK, e2 ▸ hP, e2 ▸ hD, hS, hA, hN⟩
theorem gf_AP_253 (hc : CallFix p m c cc nL s args gws R_AP) (hw : Wd D g F A H0 H locs s) (hdg : decode cc pc = .ok (.getfield 253, 3)) {v : Value} (hv : .int (F 57 0) = v)
    (kk : W p l e R s m args below meth c H locs cells slots Q (F0 m (pc + 3) ls (v :: rest))) : W p l e R s m args below meth c H locs cells slots Q (F0 m pc ls (.ref (wad g 57) :: rest)) := 
  va_get (D := D) (ci := 6) (C := R_TR) (T := F_TR) (N := 1) hc.1 hc.2.1 hc.2.2.2.2 i_TR hc.2.2.2.1 hw.1 hw.2.1 57 (show (wl g F)[57]? = some (wad g 57, eTR (F 57)) from wl_at (by omega)) rfl 0 (by decide) (hc.2.2.2.2 _ g_181) (fun _ h9 => h9) (congrArg some hv) hdg kk
theorem pf_AP_253 (hc : CallFix p m c cc nL s args gws R_AP) (hw : Wd D g F A H0 H locs s) (hdg : decode cc pc = .ok (.putfield 253, 3)) {x : Int32}
    (kk : ∀ (H1 : Heap) (locs1 : List Loc), Wd D g (u2 F 57 0 x) A H0 H1 locs1 s → W p l e R s m args below meth c H1 locs1 cells slots Q (F0 m (pc + 3) ls rest)) : W p l e R s m args below meth c H locs cells slots Q (F0 m pc ls (.int x :: .ref (wad g 57) :: rest)) := by
  obtain ⟨hK, hP, hD, hS, hA, hN⟩ := hw
  refine va_put (D := D) (ci := 6) (v := .int x) (ty := .int) (C := R_TR) (T := F_TR) (N := 1) hc.1 hc.2.1 hc.2.2.2.2 i_TR t_TR t_TR_ok n_TR hc.2.2.2.1 hK hP hD hS 57 (show (wl g F)[57]? = some (wad g 57, eTR (F 57)) from wl_at (by omega)) rfl 0 (by decide) (hc.2.2.2.2 _ g_181) (fun _ h9 => h9) rfl (by decide +kernel) rfl rfl (Nat.le_of_ble_eq_true rfl) hdg (fun H1 locs1 hP hD hS => ?_)
  have e : wt g 57 (upd (F 57) 0 x) = eTR (upd (F 57) 0 x) := rfl
  have e2 := wl_set (F := F) (F' := u2 F 57 0 x) (g := g) (h := 57) (by omega) u2_ne
  rw [u2_self, e] at e2
  exact kk H1 locs1 ⟨hK, e2 ▸ hP, e2 ▸ hD, hS, hA, hN⟩
theorem gf_AP_13 (hc : CallFix p m c cc nL s args gws R_AP) (hw : Wd D g F A H0 H locs s) (hdg : decode cc pc = .ok (.getfield 13, 3))
    (kk : W p l e R s m args below meth c H locs cells slots Q (F0 m (pc + 3) ls (.ref (wad g 1) :: rest))) : W p l e R s m args below meth c H locs cells slots Q (F0 m pc ls (.ref (wad g 0) :: rest)) := 
  va_get (D := D) (ci := 0) (C := R_AP) (T := F_AP) (N := 10) hc.1 hc.2.1 hc.2.2.2.2 i_AP hc.2.2.2.1 hw.1 hw.2.1 0 (show (wl g F)[0]? = some (wad g 0, eAP g (F 0)) from wl_at (by omega)) rfl 0 (by decide) (hc.2.2.2.2 _ g_185) (fun _ h9 => h9) rfl hdg kk
theorem gf_AP_20 (hc : CallFix p m c cc nL s args gws R_AP) (hw : Wd D g F A H0 H locs s) (hdg : decode cc pc = .ok (.getfield 20, 3))
    (kk : W p l e R s m args below meth c H locs cells slots Q (F0 m (pc + 3) ls (.ref (wad g 10) :: rest))) : W p l e R s m args below meth c H locs cells slots Q (F0 m pc ls (.ref (wad g 0) :: rest)) := 
  va_get (D := D) (ci := 0) (C := R_AP) (T := F_AP) (N := 10) hc.1 hc.2.1 hc.2.2.2.2 i_AP hc.2.2.2.1 hw.1 hw.2.1 0 (show (wl g F)[0]? = some (wad g 0, eAP g (F 0)) from wl_at (by omega)) rfl 1 (by decide) (hc.2.2.2.2 _ g_186) (fun _ h9 => h9) rfl hdg kk
theorem gf_AP_27 (hc : CallFix p m c cc nL s args gws R_AP) (hw : Wd D g F A H0 H locs s) (hdg : decode cc pc = .ok (.getfield 27, 3))
    (kk : W p l e R s m args below meth c H locs cells slots Q (F0 m (pc + 3) ls (.ref (wad g 11) :: rest))) : W p l e R s m args below meth c H locs cells slots Q (F0 m pc ls (.ref (wad g 0) :: rest)) := 
  va_get (D := D) (ci := 0) (C := R_AP) (T := F_AP) (N := 10) hc.1 hc.2.1 hc.2.2.2.2 i_AP hc.2.2.2.1 hw.1 hw.2.1 0 (show (wl g F)[0]? = some (wad g 0, eAP g (F 0)) from wl_at (by omega)) rfl 2 (by decide) (hc.2.2.2.2 _ g_187) (fun _ h9 => h9) rfl hdg kk
theorem gf_AP_34 (hc : CallFix p m c cc nL s args gws R_AP) (hw : Wd D g F A H0 H locs s) (hdg : decode cc pc = .ok (.getfield 34, 3))
    (kk : W p l e R s m args below meth c H locs cells slots Q (F0 m (pc + 3) ls (.ref (wad g 19) :: rest))) : W p l e R s m args below meth c H locs cells slots Q (F0 m pc ls (.ref (wad g 0) :: rest)) := 
  va_get (D := D) (ci := 0) (C := R_AP) (T := F_AP) (N := 10) hc.1 hc.2.1 hc.2.2.2.2 i_AP hc.2.2.2.1 hw.1 hw.2.1 0 (show (wl g F)[0]? = some (wad g 0, eAP g (F 0)) from wl_at (by omega)) rfl 3 (by decide) (hc.2.2.2.2 _ g_188) (fun _ h9 => h9) rfl hdg kk
theorem gf_AP_41 (hc : CallFix p m c cc nL s args gws R_AP) (hw : Wd D g F A H0 H locs s) (hdg : decode cc pc = .ok (.getfield 41, 3))
    (kk : W p l e R s m args below meth c H locs cells slots Q (F0 m (pc + 3) ls (.ref (wad g 23) :: rest))) : W p l e R s m args below meth c H locs cells slots Q (F0 m pc ls (.ref (wad g 0) :: rest)) := 
  va_get (D := D) (ci := 0) (C := R_AP) (T := F_AP) (N := 10) hc.1 hc.2.1 hc.2.2.2.2 i_AP hc.2.2.2.1 hw.1 hw.2.1 0 (show (wl g F)[0]? = some (wad g 0, eAP g (F 0)) from wl_at (by omega)) rfl 4 (by decide) (hc.2.2.2.2 _ g_189) (fun _ h9 => h9) rfl hdg kk
theorem gf_AP_48 (hc : CallFix p m c cc nL s args gws R_AP) (hw : Wd D g F A H0 H locs s) (hdg : decode cc pc = .ok (.getfield 48, 3))
    (kk : W p l e R s m args below meth c H locs cells slots Q (F0 m (pc + 3) ls (.ref (wad g 44) :: rest))) : W p l e R s m args below meth c H locs cells slots Q (F0 m pc ls (.ref (wad g 0) :: rest)) := 
  va_get (D := D) (ci := 0) (C := R_AP) (T := F_AP) (N := 10) hc.1 hc.2.1 hc.2.2.2.2 i_AP hc.2.2.2.1 hw.1 hw.2.1 0 (show (wl g F)[0]? = some (wad g 0, eAP g (F 0)) from wl_at (by omega)) rfl 5 (by decide) (hc.2.2.2.2 _ g_190) (fun _ h9 => h9) rfl hdg kk
theorem gf_AP_55 (hc : CallFix p m c cc nL s args gws R_AP) (hw : Wd D g F A H0 H locs s) (hdg : decode cc pc = .ok (.getfield 55, 3))
    (kk : W p l e R s m args below meth c H locs cells slots Q (F0 m (pc + 3) ls (.ref (wad g 57) :: rest))) : W p l e R s m args below meth c H locs cells slots Q (F0 m pc ls (.ref (wad g 0) :: rest)) := 
  va_get (D := D) (ci := 0) (C := R_AP) (T := F_AP) (N := 10) hc.1 hc.2.1 hc.2.2.2.2 i_AP hc.2.2.2.1 hw.1 hw.2.1 0 (show (wl g F)[0]? = some (wad g 0, eAP g (F 0)) from wl_at (by omega)) rfl 6 (by decide) (hc.2.2.2.2 _ g_191) (fun _ h9 => h9) rfl hdg kk
theorem gf_AP_93 (hc : CallFix p m c cc nL s args gws R_AP) (hw : Wd D g F A H0 H locs s) (hdg : decode cc pc = .ok (.getfield 93, 3)) {v : Value} (hv : .int (F 0 7) = v)
    (kk : W p l e R s m args below meth c H locs cells slots Q (F0 m (pc + 3) ls (v :: rest))) : W p l e R s m args below meth c H locs cells slots Q (F0 m pc ls (.ref (wad g 0) :: rest)) := 
  va_get (D := D) (ci := 0) (C := R_AP) (T := F_AP) (N := 10) hc.1 hc.2.1 hc.2.2.2.2 i_AP hc.2.2.2.1 hw.1 hw.2.1 0 (show (wl g F)[0]? = some (wad g 0, eAP g (F 0)) from wl_at (by omega)) rfl 7 (by decide) (hc.2.2.2.2 _ g_192) (fun _ h9 => h9) (congrArg some hv) hdg kk
theorem pf_AP_93 (hc : CallFix p m c cc nL s args gws R_AP) (hw : Wd D g F A H0 H locs s) (hdg : decode cc pc = .ok (.putfield 93, 3)) {x : Int32}
    (kk : ∀ (H1 : Heap) (locs1 : List Loc), Wd D g (u2 F 0 7 x) A H0 H1 locs1 s → W p l e R s m args below meth c H1 locs1 cells slots Q (F0 m (pc + 3) ls rest)) : W p l e R s m args below meth c H locs cells slots Q (F0 m pc ls (.int x :: .ref (wad g 0) :: rest)) := by
  obtain ⟨hK, hP, hD, hS, hA, hN⟩ := hw
  refine va_put (D := D) (ci := 0) (v := .int x) (ty := .int) (C := R_AP) (T := F_AP) (N := 10) hc.1 hc.2.1 hc.2.2.2.2 i_AP t_AP t_AP_ok n_AP hc.2.2.2.1 hK hP hD hS 0 (show (wl g F)[0]? = some (wad g 0, eAP g (F 0)) from wl_at (by omega)) rfl 7 (by decide) (hc.2.2.2.2 _ g_192) (fun _ h9 => h9) rfl (by decide +kernel) rfl rfl (Nat.le_of_ble_eq_true rfl) hdg (fun H1 locs1 hP hD hS => ?_)
  have e : wt g 0 (upd (F 0) 7 x) = eAP g (upd (F 0) 7 x) := rfl
  have e2 := wl_set (F := F) (F' := u2 F 0 7 x) (g := g) (h := 0) (by omega) u2_ne
  rw [u2_self, e] at e2
  exact kk H1 locs1 ⟨hK, e2 ▸ hP, e2 ▸ hD, hS, hA, hN⟩
theorem gf_AP_110 (hc : CallFix p m c cc nL s args gws R_AP) (hw : Wd D g F A H0 H locs s) (hdg : decode cc pc = .ok (.getfield 110, 3)) {v : Value} (hv : .int (F 0 8) = v)
    (kk : W p l e R s m args below meth c H locs cells slots Q (F0 m (pc + 3) ls (v :: rest))) : W p l e R s m args below meth c H locs cells slots Q (F0 m pc ls (.ref (wad g 0) :: rest)) := 
  va_get (D := D) (ci := 0) (C := R_AP) (T := F_AP) (N := 10) hc.1 hc.2.1 hc.2.2.2.2 i_AP hc.2.2.2.1 hw.1 hw.2.1 0 (show (wl g F)[0]? = some (wad g 0, eAP g (F 0)) from wl_at (by omega)) rfl 8 (by decide) (hc.2.2.2.2 _ g_193) (fun _ h9 => h9) (congrArg some hv) hdg kk
theorem pf_AP_110 (hc : CallFix p m c cc nL s args gws R_AP) (hw : Wd D g F A H0 H locs s) (hdg : decode cc pc = .ok (.putfield 110, 3)) {x : Int32}
    (kk : ∀ (H1 : Heap) (locs1 : List Loc), Wd D g (u2 F 0 8 x) A H0 H1 locs1 s → W p l e R s m args below meth c H1 locs1 cells slots Q (F0 m (pc + 3) ls rest)) : W p l e R s m args below meth c H locs cells slots Q (F0 m pc ls (.int x :: .ref (wad g 0) :: rest)) := by
  obtain ⟨hK, hP, hD, hS, hA, hN⟩ := hw
  refine va_put (D := D) (ci := 0) (v := .int x) (ty := .int) (C := R_AP) (T := F_AP) (N := 10) hc.1 hc.2.1 hc.2.2.2.2 i_AP t_AP t_AP_ok n_AP hc.2.2.2.1 hK hP hD hS 0 (show (wl g F)[0]? = some (wad g 0, eAP g (F 0)) from wl_at (by omega)) rfl 8 (by decide) (hc.2.2.2.2 _ g_193) (fun _ h9 => h9) rfl (by decide +kernel) rfl rfl (Nat.le_of_ble_eq_true rfl) hdg (fun H1 locs1 hP hD hS => ?_)
  have e : wt g 0 (upd (F 0) 8 x) = eAP g (upd (F 0) 8 x) := rfl
  have e2 := wl_set (F := F) (F' := u2 F 0 8 x) (g := g) (h := 0) (by omega) u2_ne
  rw [u2_self, e] at e2
  exact kk H1 locs1 ⟨hK, e2 ▸ hP, e2 ▸ hD, hS, hA, hN⟩
theorem gf_AP_59 (hc : CallFix p m c cc nL s args gws R_AP) (hw : Wd D g F A H0 H locs s) (hdg : decode cc pc = .ok (.getfield 59, 3)) {v : Value} (hv : .int (F 0 9) = v)
    (kk : W p l e R s m args below meth c H locs cells slots Q (F0 m (pc + 3) ls (v :: rest))) : W p l e R s m args below meth c H locs cells slots Q (F0 m pc ls (.ref (wad g 0) :: rest)) := 
  va_get (D := D) (ci := 0) (C := R_AP) (T := F_AP) (N := 10) hc.1 hc.2.1 hc.2.2.2.2 i_AP hc.2.2.2.1 hw.1 hw.2.1 0 (show (wl g F)[0]? = some (wad g 0, eAP g (F 0)) from wl_at (by omega)) rfl 9 (by decide) (hc.2.2.2.2 _ g_194) (fun _ h9 => h9) (congrArg some hv) hdg kk
theorem pf_AP_59 (hc : CallFix p m c cc nL s args gws R_AP) (hw : Wd D g F A H0 H locs s) (hdg : decode cc pc = .ok (.putfield 59, 3)) {x : Int32}
    (kk : ∀ (H1 : Heap) (locs1 : List Loc), Wd D g (u2 F 0 9 x) A H0 H1 locs1 s → W p l e R s m args below meth c H1 locs1 cells slots Q (F0 m (pc + 3) ls rest)) : W p l e R s m args below meth c H locs cells slots Q (F0 m pc ls (.int x :: .ref (wad g 0) :: rest)) := by
  obtain ⟨hK, hP, hD, hS, hA, hN⟩ := hw
  refine va_put (D := D) (ci := 0) (v := .int x) (ty := .int) (C := R_AP) (T := F_AP) (N := 10) hc.1 hc.2.1 hc.2.2.2.2 i_AP t_AP t_AP_ok n_AP hc.2.2.2.1 hK hP hD hS 0 (show (wl g F)[0]? = some (wad g 0, eAP g (F 0)) from wl_at (by omega)) rfl 9 (by decide) (hc.2.2.2.2 _ g_194) (fun _ h9 => h9) rfl (by decide +kernel) rfl rfl (Nat.le_of_ble_eq_true rfl) hdg (fun H1 locs1 hP hD hS => ?_)
  have e : wt g 0 (upd (F 0) 9 x) = eAP g (upd (F 0) 9 x) := rfl
  have e2 := wl_set (F := F) (F' := u2 F 0 9 x) (g := g) (h := 0) (by omega) u2_ne
  rw [u2_self, e] at e2
  exact kk H1 locs1 ⟨hK, e2 ▸ hP, e2 ▸ hD, hS, hA, hN⟩
theorem gf_WR_9 (hc : CallFix p m c cc nL s args gws R_WR) (hw : Wd D g F A H0 H locs s) {k : Nat} (hk : k < wm g) (h2 : wK g k ≤ 2) (hdg : decode cc pc = .ok (.getfield 9, 3)) {v : Value} (hv : .int (F (79 + k) 0) = v)
    (kk : W p l e R s m args below meth c H locs cells slots Q (F0 m (pc + 3) ls (v :: rest))) : W p l e R s m args below meth c H locs cells slots Q (F0 m pc ls (.ref (wad g (79 + k)) :: rest)) := by
  rcases (show wK g k = 0 ∨ wK g k = 1 ∨ wK g k = 2 by omega) with h0 | h0 | h0
  · exact va_get (D := D) (ci := 7) (C := R_WR) (T := F_WR) (N := 2) hc.1 hc.2.1 hc.2.2.2.2 i_WR hc.2.2.2.1 hw.1 hw.2.1 (79 + k) (show (wl g F)[79 + k]? = some (wad g (79 + k), eWR 0 (F (79 + k))) from (wl_at (by omega)).trans (by rw [wt_per, h0])) rfl 0 (by decide) (hc.2.2.2.2 _ g_279) (fun _ h9 => h9) (congrArg some hv) hdg kk
  · exact va_get (D := D) (ci := 8) (C := R_MI) (T := F_MI) (N := 2) hc.1 hc.2.1 hc.2.2.2.2 i_MI hc.2.2.2.1 hw.1 hw.2.1 (79 + k) (show (wl g F)[79 + k]? = some (wad g (79 + k), eWR 1 (F (79 + k))) from (wl_at (by omega)).trans (by rw [wt_per, h0])) rfl 0 (by decide) (hc.2.2.2.2 _ g_279) (fun _ h9 => h9) (congrArg some hv) hdg kk
  · exact va_get (D := D) (ci := 9) (C := R_LA) (T := F_LA) (N := 2) hc.1 hc.2.1 hc.2.2.2.2 i_LA hc.2.2.2.1 hw.1 hw.2.1 (79 + k) (show (wl g F)[79 + k]? = some (wad g (79 + k), eWR 2 (F (79 + k))) from (wl_at (by omega)).trans (by rw [wt_per, h0])) rfl 0 (by decide) (hc.2.2.2.2 _ g_279) (fun _ h9 => h9) (congrArg some hv) hdg kk
theorem gf_LE_41 (hc : CallFix p m c cc nL s args gws R_LE) (hw : Wd D g F A H0 H locs s) {k : Nat} (hk : k < wm g) (h2 : wK g k ≤ 2) (hdg : decode cc pc = .ok (.getfield 41, 3)) {v : Value} (hv : .int (F (79 + k) 0) = v)
    (kk : W p l e R s m args below meth c H locs cells slots Q (F0 m (pc + 3) ls (v :: rest))) : W p l e R s m args below meth c H locs cells slots Q (F0 m pc ls (.ref (wad g (79 + k)) :: rest)) := by
  rcases (show wK g k = 0 ∨ wK g k = 1 ∨ wK g k = 2 by omega) with h0 | h0 | h0
  · exact va_get (D := D) (ci := 7) (C := R_WR) (T := F_WR) (N := 2) hc.1 hc.2.1 hc.2.2.2.2 i_WR hc.2.2.2.1 hw.1 hw.2.1 (79 + k) (show (wl g F)[79 + k]? = some (wad g (79 + k), eWR 0 (F (79 + k))) from (wl_at (by omega)).trans (by rw [wt_per, h0])) rfl 0 (by decide) (hc.2.2.2.2 _ g_280) (fun _ h9 => h9) (congrArg some hv) hdg kk
  · exact va_get (D := D) (ci := 8) (C := R_MI) (T := F_MI) (N := 2) hc.1 hc.2.1 hc.2.2.2.2 i_MI hc.2.2.2.1 hw.1 hw.2.1 (79 + k) (show (wl g F)[79 + k]? = some (wad g (79 + k), eWR 1 (F (79 + k))) from (wl_at (by omega)).trans (by rw [wt_per, h0])) rfl 0 (by decide) (hc.2.2.2.2 _ g_280) (fun _ h9 => h9) (congrArg some hv) hdg kk
  · exact va_get (D := D) (ci := 9) (C := R_LA) (T := F_LA) (N := 2) hc.1 hc.2.1 hc.2.2.2.2 i_LA hc.2.2.2.1 hw.1 hw.2.1 (79 + k) (show (wl g F)[79 + k]? = some (wad g (79 + k), eWR 2 (F (79 + k))) from (wl_at (by omega)).trans (by rw [wt_per, h0])) rfl 0 (by decide) (hc.2.2.2.2 _ g_280) (fun _ h9 => h9) (congrArg some hv) hdg kk
theorem gf_WR_15 (hc : CallFix p m c cc nL s args gws R_WR) (hw : Wd D g F A H0 H locs s) {k : Nat} (hk : k < wm g) (h2 : wK g k ≤ 2) (hdg : decode cc pc = .ok (.getfield 15, 3)) {v : Value} (hv : .int (F (79 + k) 1) = v)
    (kk : W p l e R s m args below meth c H locs cells slots Q (F0 m (pc + 3) ls (v :: rest))) : W p l e R s m args below meth c H locs cells slots Q (F0 m pc ls (.ref (wad g (79 + k)) :: rest)) := by
  rcases (show wK g k = 0 ∨ wK g k = 1 ∨ wK g k = 2 by omega) with h0 | h0 | h0
  · exact va_get (D := D) (ci := 7) (C := R_WR) (T := F_WR) (N := 2) hc.1 hc.2.1 hc.2.2.2.2 i_WR hc.2.2.2.1 hw.1 hw.2.1 (79 + k) (show (wl g F)[79 + k]? = some (wad g (79 + k), eWR 0 (F (79 + k))) from (wl_at (by omega)).trans (by rw [wt_per, h0])) rfl 1 (by decide) (hc.2.2.2.2 _ g_281) (fun _ h9 => h9) (congrArg some hv) hdg kk
  · exact va_get (D := D) (ci := 8) (C := R_MI) (T := F_MI) (N := 2) hc.1 hc.2.1 hc.2.2.2.2 i_MI hc.2.2.2.1 hw.1 hw.2.1 (79 + k) (show (wl g F)[79 + k]? = some (wad g (79 + k), eWR 1 (F (79 + k))) from (wl_at (by omega)).trans (by rw [wt_per, h0])) rfl 1 (by decide) (hc.2.2.2.2 _ g_281) (fun _ h9 => h9) (congrArg some hv) hdg kk
  · exact va_get (D := D) (ci := 9) (C := R_LA) (T := F_LA) (N := 2) hc.1 hc.2.1 hc.2.2.2.2 i_LA hc.2.2.2.1 hw.1 hw.2.1 (79 + k) (show (wl g F)[79 + k]? = some (wad g (79 + k), eWR 2 (F (79 + k))) from (wl_at (by omega)).trans (by rw [wt_per, h0])) rfl 1 (by decide) (hc.2.2.2.2 _ g_281) (fun _ h9 => h9) (congrArg some hv) hdg kk
theorem gf_TU_51 (hc : CallFix p m c cc nL s args gws R_TU) (hw : Wd D g F A H0 H locs s) {k : Nat} (hk : k < wm g) (h2 : wK g k ≤ 2) (hdg : decode cc pc = .ok (.getfield 51, 3)) {v : Value} (hv : .int (F (79 + k) 1) = v)
    (kk : W p l e R s m args below meth c H locs cells slots Q (F0 m (pc + 3) ls (v :: rest))) : W p l e R s m args below meth c H locs cells slots Q (F0 m pc ls (.ref (wad g (79 + k)) :: rest)) := by
  rcases (show wK g k = 0 ∨ wK g k = 1 ∨ wK g k = 2 by omega) with h0 | h0 | h0
  · exact va_get (D := D) (ci := 7) (C := R_WR) (T := F_WR) (N := 2) hc.1 hc.2.1 hc.2.2.2.2 i_WR hc.2.2.2.1 hw.1 hw.2.1 (79 + k) (show (wl g F)[79 + k]? = some (wad g (79 + k), eWR 0 (F (79 + k))) from (wl_at (by omega)).trans (by rw [wt_per, h0])) rfl 1 (by decide) (hc.2.2.2.2 _ g_282) (fun _ h9 => h9) (congrArg some hv) hdg kk
  · exact va_get (D := D) (ci := 8) (C := R_MI) (T := F_MI) (N := 2) hc.1 hc.2.1 hc.2.2.2.2 i_MI hc.2.2.2.1 hw.1 hw.2.1 (79 + k) (show (wl g F)[79 + k]? = some (wad g (79 + k), eWR 1 (F (79 + k))) from (wl_at (by omega)).trans (by rw [wt_per, h0])) rfl 1 (by decide) (hc.2.2.2.2 _ g_282) (fun _ h9 => h9) (congrArg some hv) hdg kk
  · exact va_get (D := D) (ci := 9) (C := R_LA) (T := F_LA) (N := 2) hc.1 hc.2.1 hc.2.2.2.2 i_LA hc.2.2.2.1 hw.1 hw.2.1 (79 + k) (show (wl g F)[79 + k]? = some (wad g (79 + k), eWR 2 (F (79 + k))) from (wl_at (by omega)).trans (by rw [wt_per, h0])) rfl 1 (by decide) (hc.2.2.2.2 _ g_282) (fun _ h9 => h9) (congrArg some hv) hdg kk
theorem gf_AP_104 (hc : CallFix p m c cc nL s args gws R_AP) (hw : Wd D g F A H0 H locs s) {k : Nat} (hk : k < wm g) (h2 : wK g k ≤ 2) (hdg : decode cc pc = .ok (.getfield 104, 3)) {v : Value} (hv : .int (F (79 + k) 1) = v)
    (kk : W p l e R s m args below meth c H locs cells slots Q (F0 m (pc + 3) ls (v :: rest))) : W p l e R s m args below meth c H locs cells slots Q (F0 m pc ls (.ref (wad g (79 + k)) :: rest)) := by
  rcases (show wK g k = 0 ∨ wK g k = 1 ∨ wK g k = 2 by omega) with h0 | h0 | h0
  · exact va_get (D := D) (ci := 7) (C := R_WR) (T := F_WR) (N := 2) hc.1 hc.2.1 hc.2.2.2.2 i_WR hc.2.2.2.1 hw.1 hw.2.1 (79 + k) (show (wl g F)[79 + k]? = some (wad g (79 + k), eWR 0 (F (79 + k))) from (wl_at (by omega)).trans (by rw [wt_per, h0])) rfl 1 (by decide) (hc.2.2.2.2 _ g_283) (fun _ h9 => h9) (congrArg some hv) hdg kk
  · exact va_get (D := D) (ci := 8) (C := R_MI) (T := F_MI) (N := 2) hc.1 hc.2.1 hc.2.2.2.2 i_MI hc.2.2.2.1 hw.1 hw.2.1 (79 + k) (show (wl g F)[79 + k]? = some (wad g (79 + k), eWR 1 (F (79 + k))) from (wl_at (by omega)).trans (by rw [wt_per, h0])) rfl 1 (by decide) (hc.2.2.2.2 _ g_283) (fun _ h9 => h9) (congrArg some hv) hdg kk
  · exact va_get (D := D) (ci := 9) (C := R_LA) (T := F_LA) (N := 2) hc.1 hc.2.1 hc.2.2.2.2 i_LA hc.2.2.2.1 hw.1 hw.2.1 (79 + k) (show (wl g F)[79 + k]? = some (wad g (79 + k), eWR 2 (F (79 + k))) from (wl_at (by omega)).trans (by rw [wt_per, h0])) rfl 1 (by decide) (hc.2.2.2.2 _ g_283) (fun _ h9 => h9) (congrArg some hv) hdg kk
theorem gf_MO_70 (hc : CallFix p m c cc nL s args gws R_MO) (hw : Wd D g F A H0 H locs s) (hdg : decode cc pc = .ok (.getfield 70, 3)) {v : Value} (hv : .int (F 58 0) = v)
    (kk : W p l e R s m args below meth c H locs cells slots Q (F0 m (pc + 3) ls (v :: rest))) : W p l e R s m args below meth c H locs cells slots Q (F0 m pc ls (.ref (wad g 58) :: rest)) := 
  va_get (D := D) (ci := 10) (C := R_MO) (T := F_MO) (N := 29) hc.1 hc.2.1 hc.2.2.2.2 i_MO hc.2.2.2.1 hw.1 hw.2.1 58 (show (wl g F)[58]? = some (wad g 58, eMO g (F 58)) from wl_at (by omega)) rfl 0 (by decide) (hc.2.2.2.2 _ g_614) (fun _ h9 => h9) (congrArg some hv) hdg kk
theorem pf_MO_70 (hc : CallFix p m c cc nL s args gws R_MO) (hw : Wd D g F A H0 H locs s) (hdg : decode cc pc = .ok (.putfield 70, 3)) {x : Int32}
    (kk : ∀ (H1 : Heap) (locs1 : List Loc), Wd D g (u2 F 58 0 x) A H0 H1 locs1 s → W p l e R s m args below meth c H1 locs1 cells slots Q (F0 m (pc + 3) ls rest)) : W p l e R s m args below meth c H locs cells slots Q (F0 m pc ls (.int x :: .ref (wad g 58) :: rest)) := by
  obtain ⟨hK, hP, hD, hS, hA, hN⟩ := hw
  refine va_put (D := D) (ci := 10) (v := .int x) (ty := .int) (C := R_MO) (T := F_MO) (N := 29) hc.1 hc.2.1 hc.2.2.2.2 i_MO t_MO t_MO_ok n_MO hc.2.2.2.1 hK hP hD hS 58 (show (wl g F)[58]? = some (wad g 58, eMO g (F 58)) from wl_at (by omega)) rfl 0 (by decide) (hc.2.2.2.2 _ g_614) (fun _ h9 => h9) rfl (by decide +kernel) rfl rfl (Nat.le_of_ble_eq_true rfl) hdg (fun H1 locs1 hP hD hS => ?_)
  have e : wt g 58 (upd (F 58) 0 x) = eMO g (upd (F 58) 0 x) := rfl
  have e2 := wl_set (F := F) (F' := u2 F 58 0 x) (g := g) (h := 58) (by omega) u2_ne
  rw [u2_self, e] at e2
  exact kk H1 locs1 ⟨hK, e2 ▸ hP, e2 ▸ hD, hS, hA, hN⟩
theorem gf_MO_190 (hc : CallFix p m c cc nL s args gws R_MO) (hw : Wd D g F A H0 H locs s) (hdg : decode cc pc = .ok (.getfield 190, 3)) {v : Value} (hv : .int (F 58 1) = v)
    (kk : W p l e R s m args below meth c H locs cells slots Q (F0 m (pc + 3) ls (v :: rest))) : W p l e R s m args below meth c H locs cells slots Q (F0 m pc ls (.ref (wad g 58) :: rest)) := 
  va_get (D := D) (ci := 10) (C := R_MO) (T := F_MO) (N := 29) hc.1 hc.2.1 hc.2.2.2.2 i_MO hc.2.2.2.1 hw.1 hw.2.1 58 (show (wl g F)[58]? = some (wad g 58, eMO g (F 58)) from wl_at (by omega)) rfl 1 (by decide) (hc.2.2.2.2 _ g_615) (fun _ h9 => h9) (congrArg some hv) hdg kk
theorem pf_MO_190 (hc : CallFix p m c cc nL s args gws R_MO) (hw : Wd D g F A H0 H locs s) (hdg : decode cc pc = .ok (.putfield 190, 3)) {x : Int32}
    (kk : ∀ (H1 : Heap) (locs1 : List Loc), Wd D g (u2 F 58 1 x) A H0 H1 locs1 s → W p l e R s m args below meth c H1 locs1 cells slots Q (F0 m (pc + 3) ls rest)) : W p l e R s m args below meth c H locs cells slots Q (F0 m pc ls (.int x :: .ref (wad g 58) :: rest)) := by
  obtain ⟨hK, hP, hD, hS, hA, hN⟩ := hw
  refine va_put (D := D) (ci := 10) (v := .int x) (ty := .int) (C := R_MO) (T := F_MO) (N := 29) hc.1 hc.2.1 hc.2.2.2.2 i_MO t_MO t_MO_ok n_MO hc.2.2.2.1 hK hP hD hS 58 (show (wl g F)[58]? = some (wad g 58, eMO g (F 58)) from wl_at (by omega)) rfl 1 (by decide) (hc.2.2.2.2 _ g_615) (fun _ h9 => h9) rfl (by decide +kernel) rfl rfl (Nat.le_of_ble_eq_true rfl) hdg (fun H1 locs1 hP hD hS => ?_)
  have e : wt g 58 (upd (F 58) 1 x) = eMO g (upd (F 58) 1 x) := rfl
  have e2 := wl_set (F := F) (F' := u2 F 58 1 x) (g := g) (h := 58) (by omega) u2_ne
  rw [u2_self, e] at e2
  exact kk H1 locs1 ⟨hK, e2 ▸ hP, e2 ▸ hD, hS, hA, hN⟩
theorem gf_MO_9 (hc : CallFix p m c cc nL s args gws R_MO) (hw : Wd D g F A H0 H locs s) (hdg : decode cc pc = .ok (.getfield 9, 3))
    (kk : W p l e R s m args below meth c H locs cells slots Q (F0 m (pc + 3) ls (.ref (wad g 59) :: rest))) : W p l e R s m args below meth c H locs cells slots Q (F0 m pc ls (.ref (wad g 58) :: rest)) := 
  va_get (D := D) (ci := 10) (C := R_MO) (T := F_MO) (N := 29) hc.1 hc.2.1 hc.2.2.2.2 i_MO hc.2.2.2.1 hw.1 hw.2.1 58 (show (wl g F)[58]? = some (wad g 58, eMO g (F 58)) from wl_at (by omega)) rfl 2 (by decide) (hc.2.2.2.2 _ g_616) (fun _ h9 => h9) rfl hdg kk
theorem gf_MO_13 (hc : CallFix p m c cc nL s args gws R_MO) (hw : Wd D g F A H0 H locs s) (hdg : decode cc pc = .ok (.getfield 13, 3))
    (kk : W p l e R s m args below meth c H locs cells slots Q (F0 m (pc + 3) ls (.ref (wad g 60) :: rest))) : W p l e R s m args below meth c H locs cells slots Q (F0 m pc ls (.ref (wad g 58) :: rest)) := 
  va_get (D := D) (ci := 10) (C := R_MO) (T := F_MO) (N := 29) hc.1 hc.2.1 hc.2.2.2.2 i_MO hc.2.2.2.1 hw.1 hw.2.1 58 (show (wl g F)[58]? = some (wad g 58, eMO g (F 58)) from wl_at (by omega)) rfl 3 (by decide) (hc.2.2.2.2 _ g_617) (fun _ h9 => h9) rfl hdg kk
theorem gf_MO_16 (hc : CallFix p m c cc nL s args gws R_MO) (hw : Wd D g F A H0 H locs s) (hdg : decode cc pc = .ok (.getfield 16, 3))
    (kk : W p l e R s m args below meth c H locs cells slots Q (F0 m (pc + 3) ls (.ref (wad g 61) :: rest))) : W p l e R s m args below meth c H locs cells slots Q (F0 m pc ls (.ref (wad g 58) :: rest)) := 
  va_get (D := D) (ci := 10) (C := R_MO) (T := F_MO) (N := 29) hc.1 hc.2.1 hc.2.2.2.2 i_MO hc.2.2.2.1 hw.1 hw.2.1 58 (show (wl g F)[58]? = some (wad g 58, eMO g (F 58)) from wl_at (by omega)) rfl 4 (by decide) (hc.2.2.2.2 _ g_618) (fun _ h9 => h9) rfl hdg kk
theorem gf_MO_80 (hc : CallFix p m c cc nL s args gws R_MO) (hw : Wd D g F A H0 H locs s) (hdg : decode cc pc = .ok (.getfield 80, 3)) {v : Value} (hv : .int (F 58 5) = v)
    (kk : W p l e R s m args below meth c H locs cells slots Q (F0 m (pc + 3) ls (v :: rest))) : W p l e R s m args below meth c H locs cells slots Q (F0 m pc ls (.ref (wad g 58) :: rest)) := 
  va_get (D := D) (ci := 10) (C := R_MO) (T := F_MO) (N := 29) hc.1 hc.2.1 hc.2.2.2.2 i_MO hc.2.2.2.1 hw.1 hw.2.1 58 (show (wl g F)[58]? = some (wad g 58, eMO g (F 58)) from wl_at (by omega)) rfl 5 (by decide) (hc.2.2.2.2 _ g_619) (fun _ h9 => h9) (congrArg some hv) hdg kk
theorem pf_MO_80 (hc : CallFix p m c cc nL s args gws R_MO) (hw : Wd D g F A H0 H locs s) (hdg : decode cc pc = .ok (.putfield 80, 3)) {x : Int32}
    (kk : ∀ (H1 : Heap) (locs1 : List Loc), Wd D g (u2 F 58 5 x) A H0 H1 locs1 s → W p l e R s m args below meth c H1 locs1 cells slots Q (F0 m (pc + 3) ls rest)) : W p l e R s m args below meth c H locs cells slots Q (F0 m pc ls (.int x :: .ref (wad g 58) :: rest)) := by
  obtain ⟨hK, hP, hD, hS, hA, hN⟩ := hw
  refine va_put (D := D) (ci := 10) (v := .int x) (ty := .int) (C := R_MO) (T := F_MO) (N := 29) hc.1 hc.2.1 hc.2.2.2.2 i_MO t_MO t_MO_ok n_MO hc.2.2.2.1 hK hP hD hS 58 (show (wl g F)[58]? = some (wad g 58, eMO g (F 58)) from wl_at (by omega)) rfl 5 (by decide) (hc.2.2.2.2 _ g_619) (fun _ h9 => h9) rfl (by decide +kernel) rfl rfl (Nat.le_of_ble_eq_true rfl) hdg (fun H1 locs1 hP hD hS => ?_)
  have e : wt g 58 (upd (F 58) 5 x) = eMO g (upd (F 58) 5 x) := rfl
  have e2 := wl_set (F := F) (F' := u2 F 58 5 x) (g := g) (h := 58) (by omega) u2_ne
  rw [u2_self, e] at e2
  exact kk H1 locs1 ⟨hK, e2 ▸ hP, e2 ▸ hD, hS, hA, hN⟩
theorem gf_MO_107 (hc : CallFix p m c cc nL s args gws R_MO) (hw : Wd D g F A H0 H locs s) (hdg : decode cc pc = .ok (.getfield 107, 3)) {v : Value} (hv : .int (F 58 6) = v)
    (kk : W p l e R s m args below meth c H locs cells slots Q (F0 m (pc + 3) ls (v :: rest))) : W p l e R s m args below meth c H locs cells slots Q (F0 m pc ls (.ref (wad g 58) :: rest)) := 
  va_get (D := D) (ci := 10) (C := R_MO) (T := F_MO) (N := 29) hc.1 hc.2.1 hc.2.2.2.2 i_MO hc.2.2.2.1 hw.1 hw.2.1 58 (show (wl g F)[58]? = some (wad g 58, eMO g (F 58)) from wl_at (by omega)) rfl 6 (by decide) (hc.2.2.2.2 _ g_620) (fun _ h9 => h9) (congrArg some hv) hdg kk
theorem pf_MO_107 (hc : CallFix p m c cc nL s args gws R_MO) (hw : Wd D g F A H0 H locs s) (hdg : decode cc pc = .ok (.putfield 107, 3)) {x : Int32}
    (kk : ∀ (H1 : Heap) (locs1 : List Loc), Wd D g (u2 F 58 6 x) A H0 H1 locs1 s → W p l e R s m args below meth c H1 locs1 cells slots Q (F0 m (pc + 3) ls rest)) : W p l e R s m args below meth c H locs cells slots Q (F0 m pc ls (.int x :: .ref (wad g 58) :: rest)) := by
  obtain ⟨hK, hP, hD, hS, hA, hN⟩ := hw
  refine va_put (D := D) (ci := 10) (v := .int x) (ty := .int) (C := R_MO) (T := F_MO) (N := 29) hc.1 hc.2.1 hc.2.2.2.2 i_MO t_MO t_MO_ok n_MO hc.2.2.2.1 hK hP hD hS 58 (show (wl g F)[58]? = some (wad g 58, eMO g (F 58)) from wl_at (by omega)) rfl 6 (by decide) (hc.2.2.2.2 _ g_620) (fun _ h9 => h9) rfl (by decide +kernel) rfl rfl (Nat.le_of_ble_eq_true rfl) hdg (fun H1 locs1 hP hD hS => ?_)
  have e : wt g 58 (upd (F 58) 6 x) = eMO g (upd (F 58) 6 x) := rfl
  have e2 := wl_set (F := F) (F' := u2 F 58 6 x) (g := g) (h := 58) (by omega) u2_ne
  rw [u2_self, e] at e2
  exact kk H1 locs1 ⟨hK, e2 ▸ hP, e2 ▸ hD, hS, hA, hN⟩
theorem gf_MO_19 (hc : CallFix p m c cc nL s args gws R_MO) (hw : Wd D g F A H0 H locs s) (hdg : decode cc pc = .ok (.getfield 19, 3))
    (kk : W p l e R s m args below meth c H locs cells slots Q (F0 m (pc + 3) ls (.ref (wad g 62) :: rest))) : W p l e R s m args below meth c H locs cells slots Q (F0 m pc ls (.ref (wad g 58) :: rest)) := 
  va_get (D := D) (ci := 10) (C := R_MO) (T := F_MO) (N := 29) hc.1 hc.2.1 hc.2.2.2.2 i_MO hc.2.2.2.1 hw.1 hw.2.1 58 (show (wl g F)[58]? = some (wad g 58, eMO g (F 58)) from wl_at (by omega)) rfl 7 (by decide) (hc.2.2.2.2 _ g_621) (fun _ h9 => h9) rfl hdg kk
theorem gf_MO_22 (hc : CallFix p m c cc nL s args gws R_MO) (hw : Wd D g F A H0 H locs s) (hdg : decode cc pc = .ok (.getfield 22, 3))
    (kk : W p l e R s m args below meth c H locs cells slots Q (F0 m (pc + 3) ls (.ref (wad g 63) :: rest))) : W p l e R s m args below meth c H locs cells slots Q (F0 m pc ls (.ref (wad g 58) :: rest)) := 
  va_get (D := D) (ci := 10) (C := R_MO) (T := F_MO) (N := 29) hc.1 hc.2.1 hc.2.2.2.2 i_MO hc.2.2.2.1 hw.1 hw.2.1 58 (show (wl g F)[58]? = some (wad g 58, eMO g (F 58)) from wl_at (by omega)) rfl 8 (by decide) (hc.2.2.2.2 _ g_622) (fun _ h9 => h9) rfl hdg kk
theorem gf_MO_98 (hc : CallFix p m c cc nL s args gws R_MO) (hw : Wd D g F A H0 H locs s) (hdg : decode cc pc = .ok (.getfield 98, 3)) {v : Value} (hv : .int (F 58 9) = v)
    (kk : W p l e R s m args below meth c H locs cells slots Q (F0 m (pc + 3) ls (v :: rest))) : W p l e R s m args below meth c H locs cells slots Q (F0 m pc ls (.ref (wad g 58) :: rest)) := 
  va_get (D := D) (ci := 10) (C := R_MO) (T := F_MO) (N := 29) hc.1 hc.2.1 hc.2.2.2.2 i_MO hc.2.2.2.1 hw.1 hw.2.1 58 (show (wl g F)[58]? = some (wad g 58, eMO g (F 58)) from wl_at (by omega)) rfl 9 (by decide) (hc.2.2.2.2 _ g_623) (fun _ h9 => h9) (congrArg some hv) hdg kk
theorem pf_MO_98 (hc : CallFix p m c cc nL s args gws R_MO) (hw : Wd D g F A H0 H locs s) (hdg : decode cc pc = .ok (.putfield 98, 3)) {x : Int32}
    (kk : ∀ (H1 : Heap) (locs1 : List Loc), Wd D g (u2 F 58 9 x) A H0 H1 locs1 s → W p l e R s m args below meth c H1 locs1 cells slots Q (F0 m (pc + 3) ls rest)) : W p l e R s m args below meth c H locs cells slots Q (F0 m pc ls (.int x :: .ref (wad g 58) :: rest)) := by
  obtain ⟨hK, hP, hD, hS, hA, hN⟩ := hw
  refine va_put (D := D) (ci := 10) (v := .int x) (ty := .int) (C := R_MO) (T := F_MO) (N := 29) hc.1 hc.2.1 hc.2.2.2.2 i_MO t_MO t_MO_ok n_MO hc.2.2.2.1 hK hP hD hS 58 (show (wl g F)[58]? = some (wad g 58, eMO g (F 58)) from wl_at (by omega)) rfl 9 (by decide) (hc.2.2.2.2 _ g_623) (fun _ h9 => h9) rfl (by decide +kernel) rfl rfl (Nat.le_of_ble_eq_true rfl) hdg (fun H1 locs1 hP hD hS => ?_)
  have e : wt g 58 (upd (F 58) 9 x) = eMO g (upd (F 58) 9 x) := rfl
  have e2 := wl_set (F := F) (F' := u2 F 58 9 x) (g := g) (h := 58) (by omega) u2_ne
  rw [u2_self, e] at e2
  exact kk H1 locs1 ⟨hK, e2 ▸ hP, e2 ▸ hD, hS, hA, hN⟩
theorem gf_MO_104 (hc : CallFix p m c cc nL s args gws R_MO) (hw : Wd D g F A H0 H locs s) (hdg : decode cc pc = .ok (.getfield 104, 3)) {v : Value} (hv : .int (F 58 10) = v)
    (kk : W p l e R s m args below meth c H locs cells slots Q (F0 m (pc + 3) ls (v :: rest))) : W p l e R s m args below meth c H locs cells slots Q (F0 m pc ls (.ref (wad g 58) :: rest)) := 
  va_get (D := D) (ci := 10) (C := R_MO) (T := F_MO) (N := 29) hc.1 hc.2.1 hc.2.2.2.2 i_MO hc.2.2.2.1 hw.1 hw.2.1 58 (show (wl g F)[58]? = some (wad g 58, eMO g (F 58)) from wl_at (by omega)) rfl 10 (by decide) (hc.2.2.2.2 _ g_624) (fun _ h9 => h9) (congrArg some hv) hdg kk
theorem pf_MO_104 (hc : CallFix p m c cc nL s args gws R_MO) (hw : Wd D g F A H0 H locs s) (hdg : decode cc pc = .ok (.putfield 104, 3)) {x : Int32}
    (kk : ∀ (H1 : Heap) (locs1 : List Loc), Wd D g (u2 F 58 10 x) A H0 H1 locs1 s → W p l e R s m args below meth c H1 locs1 cells slots Q (F0 m (pc + 3) ls rest)) : W p l e R s m args below meth c H locs cells slots Q (F0 m pc ls (.int x :: .ref (wad g 58) :: rest)) := by
  obtain ⟨hK, hP, hD, hS, hA, hN⟩ := hw
  refine va_put (D := D) (ci := 10) (v := .int x) (ty := .int) (C := R_MO) (T := F_MO) (N := 29) hc.1 hc.2.1 hc.2.2.2.2 i_MO t_MO t_MO_ok n_MO hc.2.2.2.1 hK hP hD hS 58 (show (wl g F)[58]? = some (wad g 58, eMO g (F 58)) from wl_at (by omega)) rfl 10 (by decide) (hc.2.2.2.2 _ g_624) (fun _ h9 => h9) rfl (by decide +kernel) rfl rfl (Nat.le_of_ble_eq_true rfl) hdg (fun H1 locs1 hP hD hS => ?_)
  have e : wt g 58 (upd (F 58) 10 x) = eMO g (upd (F 58) 10 x) := rfl
  have e2 := wl_set (F := F) (F' := u2 F 58 10 x) (g := g) (h := 58) (by omega) u2_ne
  rw [u2_self, e] at e2
  exact kk H1 locs1 ⟨hK, e2 ▸ hP, e2 ▸ hD, hS, hA, hN⟩
theorem gf_MO_25 (hc : CallFix p m c cc nL s args gws R_MO) (hw : Wd D g F A H0 H locs s) (hdg : decode cc pc = .ok (.getfield 25, 3))
    (kk : W p l e R s m args below meth c H locs cells slots Q (F0 m (pc + 3) ls (.ref (wad g 64) :: rest))) : W p l e R s m args below meth c H locs cells slots Q (F0 m pc ls (.ref (wad g 58) :: rest)) := 
  va_get (D := D) (ci := 10) (C := R_MO) (T := F_MO) (N := 29) hc.1 hc.2.1 hc.2.2.2.2 i_MO hc.2.2.2.1 hw.1 hw.2.1 58 (show (wl g F)[58]? = some (wad g 58, eMO g (F 58)) from wl_at (by omega)) rfl 11 (by decide) (hc.2.2.2.2 _ g_625) (fun _ h9 => h9) rfl hdg kk
theorem gf_MO_28 (hc : CallFix p m c cc nL s args gws R_MO) (hw : Wd D g F A H0 H locs s) (hdg : decode cc pc = .ok (.getfield 28, 3))
    (kk : W p l e R s m args below meth c H locs cells slots Q (F0 m (pc + 3) ls (.ref (wad g 65) :: rest))) : W p l e R s m args below meth c H locs cells slots Q (F0 m pc ls (.ref (wad g 58) :: rest)) := 
  va_get (D := D) (ci := 10) (C := R_MO) (T := F_MO) (N := 29) hc.1 hc.2.1 hc.2.2.2.2 i_MO hc.2.2.2.1 hw.1 hw.2.1 58 (show (wl g F)[58]? = some (wad g 58, eMO g (F 58)) from wl_at (by omega)) rfl 12 (by decide) (hc.2.2.2.2 _ g_626) (fun _ h9 => h9) rfl hdg kk
theorem gf_MO_110 (hc : CallFix p m c cc nL s args gws R_MO) (hw : Wd D g F A H0 H locs s) (hdg : decode cc pc = .ok (.getfield 110, 3)) {v : Value} (hv : .int (F 58 13) = v)
    (kk : W p l e R s m args below meth c H locs cells slots Q (F0 m (pc + 3) ls (v :: rest))) : W p l e R s m args below meth c H locs cells slots Q (F0 m pc ls (.ref (wad g 58) :: rest)) := 
  va_get (D := D) (ci := 10) (C := R_MO) (T := F_MO) (N := 29) hc.1 hc.2.1 hc.2.2.2.2 i_MO hc.2.2.2.1 hw.1 hw.2.1 58 (show (wl g F)[58]? = some (wad g 58, eMO g (F 58)) from wl_at (by omega)) rfl 13 (by decide) (hc.2.2.2.2 _ g_627) (fun _ h9 => h9) (congrArg some hv) hdg kk
theorem pf_MO_110 (hc : CallFix p m c cc nL s args gws R_MO) (hw : Wd D g F A H0 H locs s) (hdg : decode cc pc = .ok (.putfield 110, 3)) {x : Int32}
    (kk : ∀ (H1 : Heap) (locs1 : List Loc), Wd D g (u2 F 58 13 x) A H0 H1 locs1 s → W p l e R s m args below meth c H1 locs1 cells slots Q (F0 m (pc + 3) ls rest)) : W p l e R s m args below meth c H locs cells slots Q (F0 m pc ls (.int x :: .ref (wad g 58) :: rest)) := by
  obtain ⟨hK, hP, hD, hS, hA, hN⟩ := hw
  refine va_put (D := D) (ci := 10) (v := .int x) (ty := .int) (C := R_MO) (T := F_MO) (N := 29) hc.1 hc.2.1 hc.2.2.2.2 i_MO t_MO t_MO_ok n_MO hc.2.2.2.1 hK hP hD hS 58 (show (wl g F)[58]? = some (wad g 58, eMO g (F 58)) from wl_at (by omega)) rfl 13 (by decide) (hc.2.2.2.2 _ g_627) (fun _ h9 => h9) rfl (by decide +kernel) rfl rfl (Nat.le_of_ble_eq_true rfl) hdg (fun H1 locs1 hP hD hS => ?_)
  have e : wt g 58 (upd (F 58) 13 x) = eMO g (upd (F 58) 13 x) := rfl
  have e2 := wl_set (F := F) (F' := u2 F 58 13 x) (g := g) (h := 58) (by omega) u2_ne
  rw [u2_self, e] at e2
  exact kk H1 locs1 ⟨hK, e2 ▸ hP, e2 ▸ hD, hS, hA, hN⟩
theorem gf_MO_31 (hc : CallFix p m c cc nL s args gws R_MO) (hw : Wd D g F A H0 H locs s) (hdg : decode cc pc = .ok (.getfield 31, 3))
    (kk : W p l e R s m args below meth c H locs cells slots Q (F0 m (pc + 3) ls (.ref (wad g 66) :: rest))) : W p l e R s m args below meth c H locs cells slots Q (F0 m pc ls (.ref (wad g 58) :: rest)) := 
  va_get (D := D) (ci := 10) (C := R_MO) (T := F_MO) (N := 29) hc.1 hc.2.1 hc.2.2.2.2 i_MO hc.2.2.2.1 hw.1 hw.2.1 58 (show (wl g F)[58]? = some (wad g 58, eMO g (F 58)) from wl_at (by omega)) rfl 14 (by decide) (hc.2.2.2.2 _ g_628) (fun _ h9 => h9) rfl hdg kk
theorem gf_MO_34 (hc : CallFix p m c cc nL s args gws R_MO) (hw : Wd D g F A H0 H locs s) (hdg : decode cc pc = .ok (.getfield 34, 3))
    (kk : W p l e R s m args below meth c H locs cells slots Q (F0 m (pc + 3) ls (.ref (wad g 67) :: rest))) : W p l e R s m args below meth c H locs cells slots Q (F0 m pc ls (.ref (wad g 58) :: rest)) := 
  va_get (D := D) (ci := 10) (C := R_MO) (T := F_MO) (N := 29) hc.1 hc.2.1 hc.2.2.2.2 i_MO hc.2.2.2.1 hw.1 hw.2.1 58 (show (wl g F)[58]? = some (wad g 58, eMO g (F 58)) from wl_at (by omega)) rfl 15 (by decide) (hc.2.2.2.2 _ g_629) (fun _ h9 => h9) rfl hdg kk
theorem gf_MO_37 (hc : CallFix p m c cc nL s args gws R_MO) (hw : Wd D g F A H0 H locs s) (hdg : decode cc pc = .ok (.getfield 37, 3))
    (kk : W p l e R s m args below meth c H locs cells slots Q (F0 m (pc + 3) ls (.ref (wad g 68) :: rest))) : W p l e R s m args below meth c H locs cells slots Q (F0 m pc ls (.ref (wad g 58) :: rest)) := 
  va_get (D := D) (ci := 10) (C := R_MO) (T := F_MO) (N := 29) hc.1 hc.2.1 hc.2.2.2.2 i_MO hc.2.2.2.1 hw.1 hw.2.1 58 (show (wl g F)[58]? = some (wad g 58, eMO g (F 58)) from wl_at (by omega)) rfl 16 (by decide) (hc.2.2.2.2 _ g_630) (fun _ h9 => h9) rfl hdg kk
theorem gf_MO_40 (hc : CallFix p m c cc nL s args gws R_MO) (hw : Wd D g F A H0 H locs s) (hdg : decode cc pc = .ok (.getfield 40, 3))
    (kk : W p l e R s m args below meth c H locs cells slots Q (F0 m (pc + 3) ls (.ref (wad g 69) :: rest))) : W p l e R s m args below meth c H locs cells slots Q (F0 m pc ls (.ref (wad g 58) :: rest)) := 
  va_get (D := D) (ci := 10) (C := R_MO) (T := F_MO) (N := 29) hc.1 hc.2.1 hc.2.2.2.2 i_MO hc.2.2.2.1 hw.1 hw.2.1 58 (show (wl g F)[58]? = some (wad g 58, eMO g (F 58)) from wl_at (by omega)) rfl 17 (by decide) (hc.2.2.2.2 _ g_631) (fun _ h9 => h9) rfl hdg kk
theorem gf_MO_43 (hc : CallFix p m c cc nL s args gws R_MO) (hw : Wd D g F A H0 H locs s) (hdg : decode cc pc = .ok (.getfield 43, 3))
    (kk : W p l e R s m args below meth c H locs cells slots Q (F0 m (pc + 3) ls (.ref (wad g 70) :: rest))) : W p l e R s m args below meth c H locs cells slots Q (F0 m pc ls (.ref (wad g 58) :: rest)) := 
  va_get (D := D) (ci := 10) (C := R_MO) (T := F_MO) (N := 29) hc.1 hc.2.1 hc.2.2.2.2 i_MO hc.2.2.2.1 hw.1 hw.2.1 58 (show (wl g F)[58]? = some (wad g 58, eMO g (F 58)) from wl_at (by omega)) rfl 18 (by decide) (hc.2.2.2.2 _ g_632) (fun _ h9 => h9) rfl hdg kk
theorem gf_MO_46 (hc : CallFix p m c cc nL s args gws R_MO) (hw : Wd D g F A H0 H locs s) (hdg : decode cc pc = .ok (.getfield 46, 3))
    (kk : W p l e R s m args below meth c H locs cells slots Q (F0 m (pc + 3) ls (.ref (wad g 71) :: rest))) : W p l e R s m args below meth c H locs cells slots Q (F0 m pc ls (.ref (wad g 58) :: rest)) := 
  va_get (D := D) (ci := 10) (C := R_MO) (T := F_MO) (N := 29) hc.1 hc.2.1 hc.2.2.2.2 i_MO hc.2.2.2.1 hw.1 hw.2.1 58 (show (wl g F)[58]? = some (wad g 58, eMO g (F 58)) from wl_at (by omega)) rfl 19 (by decide) (hc.2.2.2.2 _ g_633) (fun _ h9 => h9) rfl hdg kk
theorem gf_MO_49 (hc : CallFix p m c cc nL s args gws R_MO) (hw : Wd D g F A H0 H locs s) (hdg : decode cc pc = .ok (.getfield 49, 3))
    (kk : W p l e R s m args below meth c H locs cells slots Q (F0 m (pc + 3) ls (.ref (wad g 72) :: rest))) : W p l e R s m args below meth c H locs cells slots Q (F0 m pc ls (.ref (wad g 58) :: rest)) := 
  va_get (D := D) (ci := 10) (C := R_MO) (T := F_MO) (N := 29) hc.1 hc.2.1 hc.2.2.2.2 i_MO hc.2.2.2.1 hw.1 hw.2.1 58 (show (wl g F)[58]? = some (wad g 58, eMO g (F 58)) from wl_at (by omega)) rfl 20 (by decide) (hc.2.2.2.2 _ g_634) (fun _ h9 => h9) rfl hdg kk
theorem gf_MO_52 (hc : CallFix p m c cc nL s args gws R_MO) (hw : Wd D g F A H0 H locs s) (hdg : decode cc pc = .ok (.getfield 52, 3))
    (kk : W p l e R s m args below meth c H locs cells slots Q (F0 m (pc + 3) ls (.ref (wad g 73) :: rest))) : W p l e R s m args below meth c H locs cells slots Q (F0 m pc ls (.ref (wad g 58) :: rest)) := 
  va_get (D := D) (ci := 10) (C := R_MO) (T := F_MO) (N := 29) hc.1 hc.2.1 hc.2.2.2.2 i_MO hc.2.2.2.1 hw.1 hw.2.1 58 (show (wl g F)[58]? = some (wad g 58, eMO g (F 58)) from wl_at (by omega)) rfl 21 (by decide) (hc.2.2.2.2 _ g_635) (fun _ h9 => h9) rfl hdg kk
theorem gf_MO_150 (hc : CallFix p m c cc nL s args gws R_MO) (hw : Wd D g F A H0 H locs s) (hdg : decode cc pc = .ok (.getfield 150, 3)) {v : Value} (hv : .int (F 58 22) = v)
    (kk : W p l e R s m args below meth c H locs cells slots Q (F0 m (pc + 3) ls (v :: rest))) : W p l e R s m args below meth c H locs cells slots Q (F0 m pc ls (.ref (wad g 58) :: rest)) := 
  va_get (D := D) (ci := 10) (C := R_MO) (T := F_MO) (N := 29) hc.1 hc.2.1 hc.2.2.2.2 i_MO hc.2.2.2.1 hw.1 hw.2.1 58 (show (wl g F)[58]? = some (wad g 58, eMO g (F 58)) from wl_at (by omega)) rfl 22 (by decide) (hc.2.2.2.2 _ g_636) (fun _ h9 => h9) (congrArg some hv) hdg kk
theorem pf_MO_150 (hc : CallFix p m c cc nL s args gws R_MO) (hw : Wd D g F A H0 H locs s) (hdg : decode cc pc = .ok (.putfield 150, 3)) {x : Int32}
    (kk : ∀ (H1 : Heap) (locs1 : List Loc), Wd D g (u2 F 58 22 x) A H0 H1 locs1 s → W p l e R s m args below meth c H1 locs1 cells slots Q (F0 m (pc + 3) ls rest)) : W p l e R s m args below meth c H locs cells slots Q (F0 m pc ls (.int x :: .ref (wad g 58) :: rest)) := by
  obtain ⟨hK, hP, hD, hS, hA, hN⟩ := hw
  refine va_put (D := D) (ci := 10) (v := .int x) (ty := .int) (C := R_MO) (T := F_MO) (N := 29) hc.1 hc.2.1 hc.2.2.2.2 i_MO t_MO t_MO_ok n_MO hc.2.2.2.1 hK hP hD hS 58 (show (wl g F)[58]? = some (wad g 58, eMO g (F 58)) from wl_at (by omega)) rfl 22 (by decide) (hc.2.2.2.2 _ g_636) (fun _ h9 => h9) rfl (by decide +kernel) rfl rfl (Nat.le_of_ble_eq_true rfl) hdg (fun H1 locs1 hP hD hS => ?_)
  have e : wt g 58 (upd (F 58) 22 x) = eMO g (upd (F 58) 22 x) := rfl
  have e2 := wl_set (F := F) (F' := u2 F 58 22 x) (g := g) (h := 58) (by omega) u2_ne
  rw [u2_self, e] at e2
  exact kk H1 locs1 ⟨hK, e2 ▸ hP, e2 ▸ hD, hS, hA, hN⟩
theorem gf_MO_153 (hc : CallFix p m c cc nL s args gws R_MO) (hw : Wd D g F A H0 H locs s) (hdg : decode cc pc = .ok (.getfield 153, 3)) {v : Value} (hv : .int (F 58 23) = v)
    (kk : W p l e R s m args below meth c H locs cells slots Q (F0 m (pc + 3) ls (v :: rest))) : W p l e R s m args below meth c H locs cells slots Q (F0 m pc ls (.ref (wad g 58) :: rest)) := 
  va_get (D := D) (ci := 10) (C := R_MO) (T := F_MO) (N := 29) hc.1 hc.2.1 hc.2.2.2.2 i_MO hc.2.2.2.1 hw.1 hw.2.1 58 (show (wl g F)[58]? = some (wad g 58, eMO g (F 58)) from wl_at (by omega)) rfl 23 (by decide) (hc.2.2.2.2 _ g_637) (fun _ h9 => h9) (congrArg some hv) hdg kk
theorem pf_MO_153 (hc : CallFix p m c cc nL s args gws R_MO) (hw : Wd D g F A H0 H locs s) (hdg : decode cc pc = .ok (.putfield 153, 3)) {x : Int32}
    (kk : ∀ (H1 : Heap) (locs1 : List Loc), Wd D g (u2 F 58 23 x) A H0 H1 locs1 s → W p l e R s m args below meth c H1 locs1 cells slots Q (F0 m (pc + 3) ls rest)) : W p l e R s m args below meth c H locs cells slots Q (F0 m pc ls (.int x :: .ref (wad g 58) :: rest)) := by
  obtain ⟨hK, hP, hD, hS, hA, hN⟩ := hw
  refine va_put (D := D) (ci := 10) (v := .int x) (ty := .int) (C := R_MO) (T := F_MO) (N := 29) hc.1 hc.2.1 hc.2.2.2.2 i_MO t_MO t_MO_ok n_MO hc.2.2.2.1 hK hP hD hS 58 (show (wl g F)[58]? = some (wad g 58, eMO g (F 58)) from wl_at (by omega)) rfl 23 (by decide) (hc.2.2.2.2 _ g_637) (fun _ h9 => h9) rfl (by decide +kernel) rfl rfl (Nat.le_of_ble_eq_true rfl) hdg (fun H1 locs1 hP hD hS => ?_)
  have e : wt g 58 (upd (F 58) 23 x) = eMO g (upd (F 58) 23 x) := rfl
  have e2 := wl_set (F := F) (F' := u2 F 58 23 x) (g := g) (h := 58) (by omega) u2_ne
  rw [u2_self, e] at e2
  exact kk H1 locs1 ⟨hK, e2 ▸ hP, e2 ▸ hD, hS, hA, hN⟩
theorem gf_MO_55 (hc : CallFix p m c cc nL s args gws R_MO) (hw : Wd D g F A H0 H locs s) (hdg : decode cc pc = .ok (.getfield 55, 3))
    (kk : W p l e R s m args below meth c H locs cells slots Q (F0 m (pc + 3) ls (.ref (wad g 74) :: rest))) : W p l e R s m args below meth c H locs cells slots Q (F0 m pc ls (.ref (wad g 58) :: rest)) := 
  va_get (D := D) (ci := 10) (C := R_MO) (T := F_MO) (N := 29) hc.1 hc.2.1 hc.2.2.2.2 i_MO hc.2.2.2.1 hw.1 hw.2.1 58 (show (wl g F)[58]? = some (wad g 58, eMO g (F 58)) from wl_at (by omega)) rfl 24 (by decide) (hc.2.2.2.2 _ g_638) (fun _ h9 => h9) rfl hdg kk
theorem gf_MO_58 (hc : CallFix p m c cc nL s args gws R_MO) (hw : Wd D g F A H0 H locs s) (hdg : decode cc pc = .ok (.getfield 58, 3))
    (kk : W p l e R s m args below meth c H locs cells slots Q (F0 m (pc + 3) ls (.ref (wad g 75) :: rest))) : W p l e R s m args below meth c H locs cells slots Q (F0 m pc ls (.ref (wad g 58) :: rest)) := 
  va_get (D := D) (ci := 10) (C := R_MO) (T := F_MO) (N := 29) hc.1 hc.2.1 hc.2.2.2.2 i_MO hc.2.2.2.1 hw.1 hw.2.1 58 (show (wl g F)[58]? = some (wad g 58, eMO g (F 58)) from wl_at (by omega)) rfl 25 (by decide) (hc.2.2.2.2 _ g_639) (fun _ h9 => h9) rfl hdg kk
theorem gf_MO_61 (hc : CallFix p m c cc nL s args gws R_MO) (hw : Wd D g F A H0 H locs s) (hdg : decode cc pc = .ok (.getfield 61, 3))
    (kk : W p l e R s m args below meth c H locs cells slots Q (F0 m (pc + 3) ls (.ref (wad g 76) :: rest))) : W p l e R s m args below meth c H locs cells slots Q (F0 m pc ls (.ref (wad g 58) :: rest)) := 
  va_get (D := D) (ci := 10) (C := R_MO) (T := F_MO) (N := 29) hc.1 hc.2.1 hc.2.2.2.2 i_MO hc.2.2.2.1 hw.1 hw.2.1 58 (show (wl g F)[58]? = some (wad g 58, eMO g (F 58)) from wl_at (by omega)) rfl 26 (by decide) (hc.2.2.2.2 _ g_640) (fun _ h9 => h9) rfl hdg kk
theorem gf_MO_64 (hc : CallFix p m c cc nL s args gws R_MO) (hw : Wd D g F A H0 H locs s) (hdg : decode cc pc = .ok (.getfield 64, 3))
    (kk : W p l e R s m args below meth c H locs cells slots Q (F0 m (pc + 3) ls (.ref (wad g 77) :: rest))) : W p l e R s m args below meth c H locs cells slots Q (F0 m pc ls (.ref (wad g 58) :: rest)) := 
  va_get (D := D) (ci := 10) (C := R_MO) (T := F_MO) (N := 29) hc.1 hc.2.1 hc.2.2.2.2 i_MO hc.2.2.2.1 hw.1 hw.2.1 58 (show (wl g F)[58]? = some (wad g 58, eMO g (F 58)) from wl_at (by omega)) rfl 27 (by decide) (hc.2.2.2.2 _ g_641) (fun _ h9 => h9) rfl hdg kk
theorem gf_MO_67 (hc : CallFix p m c cc nL s args gws R_MO) (hw : Wd D g F A H0 H locs s) (hdg : decode cc pc = .ok (.getfield 67, 3))
    (kk : W p l e R s m args below meth c H locs cells slots Q (F0 m (pc + 3) ls (.ref (wad g 78) :: rest))) : W p l e R s m args below meth c H locs cells slots Q (F0 m pc ls (.ref (wad g 58) :: rest)) := 
  va_get (D := D) (ci := 10) (C := R_MO) (T := F_MO) (N := 29) hc.1 hc.2.1 hc.2.2.2.2 i_MO hc.2.2.2.1 hw.1 hw.2.1 58 (show (wl g F)[58]? = some (wad g 58, eMO g (F 58)) from wl_at (by omega)) rfl 28 (by decide) (hc.2.2.2.2 _ g_642) (fun _ h9 => h9) rfl hdg kk
end WR
-- links
theorem lk_AP_63 : LkV "AnswerPost" 63 y_AP_sheetAt b_AP_sheetAt 2 (Option.some (Jvm.ClassFile.FieldType.object "AnswerPost$Row")) 1 := ⟨⟨g_223, g_1, by decide +kernel, by decide +kernel, by decide +kernel⟩, g_220, g_222, gs_0⟩
theorem lk_AP_67 : LkS "AnswerPost" 67 y_AP_isWithin b_AP_isWithin 3 (Option.some Jvm.ClassFile.FieldType.boolean) 3 := ⟨⟨g_226, g_1, by decide +kernel, by decide +kernel, by decide +kernel⟩, g_224, g_225⟩
theorem lk_AP_71 : LkV "AnswerPost" 71 y_RW_faultOfCells b_RW_faultOfCells 4 (Option.some Jvm.ClassFile.FieldType.int) 3 := ⟨⟨g_230, g_2, by decide +kernel, by decide +kernel, by decide +kernel⟩, g_227, g_228, g_229⟩
theorem lk_AP_75 : LkV "AnswerPost" 75 y_AP_faulted b_AP_faulted 2 (Option.some Jvm.ClassFile.FieldType.int) 1 := ⟨⟨g_242, g_1, by decide +kernel, by decide +kernel, by decide +kernel⟩, g_239, g_241, gs_1⟩
theorem lk_AP_83 : LkS "AnswerPost" 83 y_TX_firstFault b_TX_firstFault 4 (Option.some Jvm.ClassFile.FieldType.int) 3 := ⟨⟨g_245, g_9, by decide +kernel, by decide +kernel, by decide +kernel⟩, g_243, g_244⟩
theorem lk_AP_89 : LkV "AnswerPost" 89 y_AP_settle b_AP_settle 6 (Option.none) 3 := ⟨⟨g_261, g_1, by decide +kernel, by decide +kernel, by decide +kernel⟩, g_258, g_260, gs_2⟩
theorem lk_AP_96 : LkV "AnswerPost" 96 y_AP_personAt b_AP_personAt 2 (Option.some (Jvm.ClassFile.FieldType.object "AnswerPost$Writer")) 1 := ⟨⟨g_318, g_1, by decide +kernel, by decide +kernel, by decide +kernel⟩, g_315, g_317, gs_3⟩
theorem lk_AP_113 : LkS "AnswerPost" 113 y_AP_isDay b_AP_isDay 1 (Option.some Jvm.ClassFile.FieldType.boolean) 1 := ⟨⟨g_356, g_1, by decide +kernel, by decide +kernel, by decide +kernel⟩, g_354, g_355⟩
theorem lk_AP_117 : LkV "AnswerPost" 117 y_LE_isFull b_LE_isFull 1 (Option.some Jvm.ClassFile.FieldType.boolean) 0 := ⟨⟨g_360, g_3, by decide +kernel, by decide +kernel, by decide +kernel⟩, g_357, g_358, g_359⟩
theorem lk_AP_121 : LkV "AnswerPost" 121 y_LE_write b_LE_write 6 (Option.some Jvm.ClassFile.FieldType.int) 4 := ⟨⟨g_364, g_3, by decide +kernel, by decide +kernel, by decide +kernel⟩, g_361, g_362, g_363⟩
theorem lk_AP_125 : LkV "AnswerPost" 125 y_LE_has b_LE_has 2 (Option.some Jvm.ClassFile.FieldType.boolean) 1 := ⟨⟨g_310, g_3, by decide +kernel, by decide +kernel, by decide +kernel⟩, g_370, g_308, g_309⟩
theorem lk_AP_131 : LkV "AnswerPost" 131 y_LE_isAnswered b_LE_isAnswered 2 (Option.some Jvm.ClassFile.FieldType.boolean) 1 := ⟨⟨g_374, g_3, by decide +kernel, by decide +kernel, by decide +kernel⟩, g_371, g_372, g_373⟩
theorem lk_AP_140 : LkV "AnswerPost" 140 y_LE_pair b_LE_pair 3 (Option.none) 2 := ⟨⟨g_378, g_3, by decide +kernel, by decide +kernel, by decide +kernel⟩, g_375, g_376, g_377⟩
theorem lk_AP_159 : LkV "AnswerPost" 159 y_LE_burnLast b_LE_burnLast 3 (Option.none) 1 := ⟨⟨g_306, g_3, by decide +kernel, by decide +kernel, by decide +kernel⟩, g_303, g_304, g_305⟩
theorem lk_AP_163 : LkV "AnswerPost" 163 y_LE_paidBy b_LE_paidBy 4 (Option.some Jvm.ClassFile.FieldType.int) 3 := ⟨⟨g_394, g_3, by decide +kernel, by decide +kernel, by decide +kernel⟩, g_391, g_392, g_393⟩
theorem lk_AP_166 : LkV "AnswerPost" 166 y_LE_owed b_LE_owed 6 (Option.some Jvm.ClassFile.FieldType.int) 3 := ⟨⟨g_409, g_3, by decide +kernel, by decide +kernel, by decide +kernel⟩, g_406, g_407, g_408⟩
theorem lk_AP_169 : LkV "AnswerPost" 169 y_LE_netOf b_LE_netOf 5 (Option.some Jvm.ClassFile.FieldType.int) 2 := ⟨⟨g_421, g_3, by decide +kernel, by decide +kernel, by decide +kernel⟩, g_418, g_419, g_420⟩
theorem lk_AP_174 : LkV "AnswerPost" 174 y_SE_clear b_SE_clear 1 (Option.none) 0 := ⟨⟨g_430, g_4, by decide +kernel, by decide +kernel, by decide +kernel⟩, g_427, g_428, g_429⟩
theorem lk_AP_177 : LkV "AnswerPost" 177 y_SE_take b_SE_take 2 (Option.none) 1 := ⟨⟨g_434, g_4, by decide +kernel, by decide +kernel, by decide +kernel⟩, g_431, g_432, g_433⟩
theorem lk_AP_180 : LkV "AnswerPost" 180 y_SE_fewestPayments b_SE_fewestPayments 3 (Option.some Jvm.ClassFile.FieldType.int) 0 := ⟨⟨g_438, g_4, by decide +kernel, by decide +kernel, by decide +kernel⟩, g_435, g_436, g_437⟩
theorem lk_AP_183 : LkS "AnswerPost" 183 y_AP_pays b_AP_pays 4 (Option.some Jvm.ClassFile.FieldType.int) 3 := ⟨⟨g_401, g_1, by decide +kernel, by decide +kernel, by decide +kernel⟩, g_450, g_400⟩
theorem lk_AP_186 : LkV "AnswerPost" 186 y_TU_play b_TU_play 8 (Option.none) 5 := ⟨⟨g_458, g_5, by decide +kernel, by decide +kernel, by decide +kernel⟩, g_455, g_456, g_457⟩
theorem lk_AP_202 : LkV "AnswerPost" 202 y_RW_allWithin b_RW_allWithin 6 (Option.some Jvm.ClassFile.FieldType.boolean) 4 := ⟨⟨g_487, g_2, by decide +kernel, by decide +kernel, by decide +kernel⟩, g_484, g_485, g_486⟩
theorem lk_AP_206 : LkV "AnswerPost" 206 y_PA_part b_PA_part 11 (Option.none) 6 := ⟨⟨g_492, g_6, by decide +kernel, by decide +kernel, by decide +kernel⟩, g_489, g_490, g_491⟩
theorem lk_AP_214 : LkV "AnswerPost" 214 y_LE_paidIf b_LE_paidIf 11 (Option.some Jvm.ClassFile.FieldType.int) 5 := ⟨⟨g_398, g_3, by decide +kernel, by decide +kernel, by decide +kernel⟩, g_511, g_396, g_397⟩
theorem lk_AP_218 : LkV "AnswerPost" 218 y_RW_begin b_RW_begin 4 (Option.none) 2 := ⟨⟨g_519, g_2, by decide +kernel, by decide +kernel, by decide +kernel⟩, g_516, g_517, g_518⟩
theorem lk_AP_221 : LkV "AnswerPost" 221 y_RW_isNothing b_RW_isNothing 1 (Option.some Jvm.ClassFile.FieldType.boolean) 0 := ⟨⟨g_234, g_2, by decide +kernel, by decide +kernel, by decide +kernel⟩, g_524, g_232, g_233⟩
theorem lk_AP_227 : LkV "AnswerPost" 227 y_RW_hasCells b_RW_hasCells 3 (Option.some Jvm.ClassFile.FieldType.boolean) 2 := ⟨⟨g_238, g_2, by decide +kernel, by decide +kernel, by decide +kernel⟩, g_529, g_236, g_237⟩
theorem lk_AP_231 : LkV "AnswerPost" 231 y_RW_cut b_RW_cut 2 (Option.some Jvm.ClassFile.FieldType.int) 1 := ⟨⟨g_533, g_2, by decide +kernel, by decide +kernel, by decide +kernel⟩, g_530, g_531, g_532⟩
theorem lk_AP_249 : LkS "AnswerPost" 249 y_AP_isOfKind b_AP_isOfKind 2 (Option.some Jvm.ClassFile.FieldType.boolean) 2 := ⟨⟨g_595, g_1, by decide +kernel, by decide +kernel, by decide +kernel⟩, g_593, g_594⟩
theorem lk_AP_260 : LkS "AnswerPost" 260 y_TX_personsOf b_TX_personsOf 1 (Option.some Jvm.ClassFile.FieldType.int) 1 := ⟨⟨g_251, g_9, by decide +kernel, by decide +kernel, by decide +kernel⟩, g_262, g_250⟩
theorem lk_AP_263 : LkS "AnswerPost" 263 y_TX_letterOf b_TX_letterOf 1 (Option.some Jvm.ClassFile.FieldType.int) 1 := ⟨⟨g_257, g_9, by decide +kernel, by decide +kernel, by decide +kernel⟩, g_263, g_256⟩
theorem lk_AP_266 : LkS "AnswerPost" 266 y_TX_liftAt b_TX_liftAt 2 (Option.some Jvm.ClassFile.FieldType.int) 2 := ⟨⟨g_266, g_9, by decide +kernel, by decide +kernel, by decide +kernel⟩, g_264, g_265⟩
theorem lk_AP_270 : LkS "AnswerPost" 270 y_AP_newPerson b_AP_newPerson 3 (Option.some (Jvm.ClassFile.FieldType.object "AnswerPost$Writer")) 3 := ⟨⟨g_269, g_1, by decide +kernel, by decide +kernel, by decide +kernel⟩, g_267, g_268⟩
theorem lk_LA_13 : LkV "AnswerPost$Lawyer" 13 y_TR_leave b_TR_leave 2 (Option.none) 1 := ⟨⟨g_560, g_7, by decide +kernel, by decide +kernel, by decide +kernel⟩, g_557, g_558, g_559⟩
theorem lk_LE_37 : LkV "AnswerPost$Letters" 37 y_LE_has b_LE_has 2 (Option.some Jvm.ClassFile.FieldType.boolean) 1 := ⟨⟨g_310, g_3, by decide +kernel, by decide +kernel, by decide +kernel⟩, g_307, g_308, g_309⟩
theorem lk_LE_50 : LkV "AnswerPost$Letters" 50 y_LE_paidIf b_LE_paidIf 11 (Option.some Jvm.ClassFile.FieldType.int) 5 := ⟨⟨g_398, g_3, by decide +kernel, by decide +kernel, by decide +kernel⟩, g_395, g_396, g_397⟩
theorem lk_LE_54 : LkN "AnswerPost$Letters" 54 y_AP_pays b_AP_pays 4 (Option.some Jvm.ClassFile.FieldType.int) 3 := ⟨⟨g_401, g_1, by decide +kernel, by decide +kernel, by decide +kernel⟩, ⟨"AnswerPost", List.mem_of_getElem? (i := 6) rfl⟩, g_400⟩
theorem lk_LE_58 : LkV "AnswerPost$Letters" 58 y_LE_owedFor b_LE_owedFor 5 (Option.some Jvm.ClassFile.FieldType.int) 2 := ⟨⟨g_413, g_3, by decide +kernel, by decide +kernel, by decide +kernel⟩, g_410, g_412, gs_4⟩
theorem lk_MI_9 : LkV "AnswerPost$Miser" 9 y_TR_leave b_TR_leave 2 (Option.none) 1 := ⟨⟨g_560, g_7, by decide +kernel, by decide +kernel, by decide +kernel⟩, g_564, g_558, g_559⟩
theorem lk_PA_32 : LkN "AnswerPost$Parts" 32 y_AP_pays b_AP_pays 4 (Option.some Jvm.ClassFile.FieldType.int) 3 := ⟨⟨g_401, g_1, by decide +kernel, by decide +kernel, by decide +kernel⟩, ⟨"AnswerPost", List.mem_of_getElem? (i := 9) rfl⟩, g_400⟩
theorem lk_PA_36 : LkV "AnswerPost$Parts" 36 y_PA_choose b_PA_choose 8 (Option.none) 3 := ⟨⟨g_498, g_6, by decide +kernel, by decide +kernel, by decide +kernel⟩, g_495, g_497, gs_9⟩
theorem lk_PA_44 : LkV "AnswerPost$Parts" 44 y_PA_costOf b_PA_costOf 5 (Option.some Jvm.ClassFile.FieldType.int) 4 := ⟨⟨g_502, g_6, by decide +kernel, by decide +kernel, by decide +kernel⟩, g_499, g_501, gs_10⟩
theorem lk_RW_22 : LkN "AnswerPost$Row" 22 y_AP_isWithin b_AP_isWithin 3 (Option.some Jvm.ClassFile.FieldType.boolean) 3 := ⟨⟨g_226, g_1, by decide +kernel, by decide +kernel, by decide +kernel⟩, ⟨"AnswerPost", List.mem_of_getElem? (i := 8) rfl⟩, g_225⟩
theorem lk_RW_26 : LkV "AnswerPost$Row" 26 y_RW_isNothing b_RW_isNothing 1 (Option.some Jvm.ClassFile.FieldType.boolean) 0 := ⟨⟨g_234, g_2, by decide +kernel, by decide +kernel, by decide +kernel⟩, g_231, g_232, g_233⟩
theorem lk_RW_30 : LkV "AnswerPost$Row" 30 y_RW_hasCells b_RW_hasCells 3 (Option.some Jvm.ClassFile.FieldType.boolean) 2 := ⟨⟨g_238, g_2, by decide +kernel, by decide +kernel, by decide +kernel⟩, g_235, g_236, g_237⟩
theorem lk_SE_25 : LkV "AnswerPost$Settling" 25 y_SE_fill b_SE_fill 6 (Option.none) 1 := ⟨⟨g_442, g_4, by decide +kernel, by decide +kernel, by decide +kernel⟩, g_439, g_441, gs_5⟩
theorem lk_TX_9 : LkS "AnswerPost$Text" 9 y_TX_goesOn b_TX_goesOn 4 (Option.some Jvm.ClassFile.FieldType.boolean) 3 := ⟨⟨g_248, g_9, by decide +kernel, by decide +kernel, by decide +kernel⟩, g_246, g_247⟩
theorem lk_TX_15 : LkS "AnswerPost$Text" 15 y_TX_personsOf b_TX_personsOf 1 (Option.some Jvm.ClassFile.FieldType.int) 1 := ⟨⟨g_251, g_9, by decide +kernel, by decide +kernel, by decide +kernel⟩, g_249, g_250⟩
theorem lk_TX_19 : LkS "AnswerPost$Text" 19 y_TX_letterOf b_TX_letterOf 1 (Option.some Jvm.ClassFile.FieldType.int) 1 := ⟨⟨g_257, g_9, by decide +kernel, by decide +kernel, by decide +kernel⟩, g_255, g_256⟩
theorem lk_TX_22 : LkS "AnswerPost$Text" 22 y_TX_isSecondDigit b_TX_isSecondDigit 2 (Option.some Jvm.ClassFile.FieldType.boolean) 2 := ⟨⟨g_254, g_9, by decide +kernel, by decide +kernel, by decide +kernel⟩, g_252, g_253⟩
theorem lk_TU_39 : LkV "AnswerPost$Turns" 39 y_TU_weighAll b_TU_weighAll 4 (Option.none) 2 := ⟨⟨g_462, g_5, by decide +kernel, by decide +kernel, by decide +kernel⟩, g_459, g_461, gs_6⟩
theorem lk_TU_43 : LkV "AnswerPost$Turns" 43 y_TU_choose b_TU_choose 10 (Option.none) 2 := ⟨⟨g_470, g_5, by decide +kernel, by decide +kernel, by decide +kernel⟩, g_467, g_469, gs_7⟩
theorem lk_TU_47 : LkV "AnswerPost$Turns" 47 y_TU_write b_TU_write 4 (Option.none) 1 := ⟨⟨g_475, g_5, by decide +kernel, by decide +kernel, by decide +kernel⟩, g_472, g_474, gs_8⟩
theorem lk_TU_65 : LkN "AnswerPost$Turns" 65 y_AP_pays b_AP_pays 4 (Option.some Jvm.ClassFile.FieldType.int) 3 := ⟨⟨g_401, g_1, by decide +kernel, by decide +kernel, by decide +kernel⟩, ⟨"AnswerPost", List.mem_of_getElem? (i := 7) rfl⟩, g_400⟩
theorem lk_WR_22 : LkV "AnswerPost$Writer" 22 y_TR_leave b_TR_leave 2 (Option.none) 1 := ⟨⟨g_560, g_7, by decide +kernel, by decide +kernel, by decide +kernel⟩, g_572, g_558, g_559⟩
theorem lk_law_13 : LkV "AnswerPostLaw" 13 y_AP_post b_AP_post 8 (Option.some Jvm.ClassFile.FieldType.int) 4 := ⟨⟨g_219, g_1, by decide +kernel, by decide +kernel, by decide +kernel⟩, g_216, g_217, g_218⟩
theorem lk_law_17 : LkV "AnswerPostLaw" 17 y_MO_post b_MO_post 8 (Option.some Jvm.ClassFile.FieldType.int) 4 := ⟨⟨g_705, g_8, by decide +kernel, by decide +kernel, by decide +kernel⟩, g_702, g_703, g_704⟩
theorem lk_law_18 : LkV "AnswerPostLaw" 18 y_AP_ofPerson b_AP_ofPerson 4 (Option.some Jvm.ClassFile.FieldType.int) 2 := ⟨⟨g_314, g_1, by decide +kernel, by decide +kernel, by decide +kernel⟩, g_311, g_312, g_313⟩
theorem lk_law_22 : LkV "AnswerPostLaw" 22 y_MO_ofPerson b_MO_ofPerson 3 (Option.some Jvm.ClassFile.FieldType.int) 2 := ⟨⟨g_734, g_8, by decide +kernel, by decide +kernel, by decide +kernel⟩, g_731, g_732, g_733⟩
theorem lk_law_23 : LkV "AnswerPostLaw" 23 y_AP_scale b_AP_scale 4 (Option.some Jvm.ClassFile.FieldType.int) 2 := ⟨⟨g_333, g_1, by decide +kernel, by decide +kernel, by decide +kernel⟩, g_330, g_331, g_332⟩
theorem lk_law_26 : LkV "AnswerPostLaw" 26 y_MO_scale b_MO_scale 3 (Option.some Jvm.ClassFile.FieldType.int) 2 := ⟨⟨g_742, g_8, by decide +kernel, by decide +kernel, by decide +kernel⟩, g_739, g_740, g_741⟩
theorem lk_law_27 : LkV "AnswerPostLaw" 27 y_AP_law b_AP_law 3 (Option.some Jvm.ClassFile.FieldType.int) 1 := ⟨⟨g_349, g_1, by decide +kernel, by decide +kernel, by decide +kernel⟩, g_346, g_347, g_348⟩
theorem lk_law_31 : LkV "AnswerPostLaw" 31 y_MO_law b_MO_law 3 (Option.some Jvm.ClassFile.FieldType.int) 1 := ⟨⟨g_750, g_8, by decide +kernel, by decide +kernel, by decide +kernel⟩, g_747, g_748, g_749⟩
theorem lk_law_32 : LkV "AnswerPostLaw" 32 y_AP_send b_AP_send 6 (Option.some Jvm.ClassFile.FieldType.int) 4 := ⟨⟨g_353, g_1, by decide +kernel, by decide +kernel, by decide +kernel⟩, g_350, g_351, g_352⟩
theorem lk_law_35 : LkV "AnswerPostLaw" 35 y_MO_send b_MO_send 5 (Option.some Jvm.ClassFile.FieldType.int) 4 := ⟨⟨g_754, g_8, by decide +kernel, by decide +kernel, by decide +kernel⟩, g_751, g_752, g_753⟩
theorem lk_law_36 : LkV "AnswerPostLaw" 36 y_AP_answer b_AP_answer 6 (Option.some Jvm.ClassFile.FieldType.int) 3 := ⟨⟨g_369, g_1, by decide +kernel, by decide +kernel, by decide +kernel⟩, g_366, g_367, g_368⟩
theorem lk_law_40 : LkV "AnswerPostLaw" 40 y_MO_answer b_MO_answer 4 (Option.some Jvm.ClassFile.FieldType.int) 3 := ⟨⟨g_765, g_8, by decide +kernel, by decide +kernel, by decide +kernel⟩, g_762, g_763, g_764⟩
theorem lk_law_41 : LkV "AnswerPostLaw" 41 y_AP_ofLetter b_AP_ofLetter 3 (Option.some Jvm.ClassFile.FieldType.int) 2 := ⟨⟨g_382, g_1, by decide +kernel, by decide +kernel, by decide +kernel⟩, g_379, g_380, g_381⟩
theorem lk_law_44 : LkV "AnswerPostLaw" 44 y_MO_ofLetter b_MO_ofLetter 3 (Option.some Jvm.ClassFile.FieldType.int) 2 := ⟨⟨g_773, g_8, by decide +kernel, by decide +kernel, by decide +kernel⟩, g_770, g_771, g_772⟩
theorem lk_law_45 : LkV "AnswerPostLaw" 45 y_AP_burn b_AP_burn 2 (Option.some Jvm.ClassFile.FieldType.int) 1 := ⟨⟨g_386, g_1, by decide +kernel, by decide +kernel, by decide +kernel⟩, g_383, g_384, g_385⟩
theorem lk_law_48 : LkV "AnswerPostLaw" 48 y_MO_burn b_MO_burn 3 (Option.some Jvm.ClassFile.FieldType.int) 1 := ⟨⟨g_781, g_8, by decide +kernel, by decide +kernel, by decide +kernel⟩, g_778, g_779, g_780⟩
theorem lk_law_49 : LkV "AnswerPostLaw" 49 y_AP_paid b_AP_paid 3 (Option.some Jvm.ClassFile.FieldType.int) 2 := ⟨⟨g_390, g_1, by decide +kernel, by decide +kernel, by decide +kernel⟩, g_387, g_388, g_389⟩
theorem lk_law_52 : LkV "AnswerPostLaw" 52 y_MO_paid b_MO_paid 3 (Option.some Jvm.ClassFile.FieldType.int) 2 := ⟨⟨g_785, g_8, by decide +kernel, by decide +kernel, by decide +kernel⟩, g_782, g_783, g_784⟩
theorem lk_law_53 : LkV "AnswerPostLaw" 53 y_AP_owes b_AP_owes 4 (Option.some Jvm.ClassFile.FieldType.int) 3 := ⟨⟨g_405, g_1, by decide +kernel, by decide +kernel, by decide +kernel⟩, g_402, g_403, g_404⟩
theorem lk_law_56 : LkV "AnswerPostLaw" 56 y_MO_owes b_MO_owes 4 (Option.some Jvm.ClassFile.FieldType.int) 3 := ⟨⟨g_797, g_8, by decide +kernel, by decide +kernel, by decide +kernel⟩, g_794, g_795, g_796⟩
theorem lk_law_57 : LkV "AnswerPostLaw" 57 y_AP_net b_AP_net 3 (Option.some Jvm.ClassFile.FieldType.int) 2 := ⟨⟨g_417, g_1, by decide +kernel, by decide +kernel, by decide +kernel⟩, g_414, g_415, g_416⟩
theorem lk_law_60 : LkV "AnswerPostLaw" 60 y_MO_net b_MO_net 3 (Option.some Jvm.ClassFile.FieldType.int) 2 := ⟨⟨g_805, g_8, by decide +kernel, by decide +kernel, by decide +kernel⟩, g_802, g_803, g_804⟩
theorem lk_law_61 : LkV "AnswerPostLaw" 61 y_AP_settled b_AP_settled 3 (Option.some Jvm.ClassFile.FieldType.int) 1 := ⟨⟨g_426, g_1, by decide +kernel, by decide +kernel, by decide +kernel⟩, g_423, g_424, g_425⟩
theorem lk_law_64 : LkV "AnswerPostLaw" 64 y_MO_settled b_MO_settled 8 (Option.some Jvm.ClassFile.FieldType.int) 1 := ⟨⟨g_814, g_8, by decide +kernel, by decide +kernel, by decide +kernel⟩, g_811, g_812, g_813⟩
theorem lk_law_65 : LkV "AnswerPostLaw" 65 y_AP_best b_AP_best 9 (Option.some Jvm.ClassFile.FieldType.int) 3 := ⟨⟨g_449, g_1, by decide +kernel, by decide +kernel, by decide +kernel⟩, g_446, g_447, g_448⟩
theorem lk_law_68 : LkV "AnswerPostLaw" 68 y_MO_best b_MO_best 4 (Option.some Jvm.ClassFile.FieldType.int) 3 := ⟨⟨g_818, g_8, by decide +kernel, by decide +kernel, by decide +kernel⟩, g_815, g_816, g_817⟩
theorem lk_law_69 : LkV "AnswerPostLaw" 69 y_AP_course b_AP_course 8 (Option.some Jvm.ClassFile.FieldType.int) 5 := ⟨⟨g_454, g_1, by decide +kernel, by decide +kernel, by decide +kernel⟩, g_451, g_452, g_453⟩
theorem lk_law_73 : LkV "AnswerPostLaw" 73 y_MO_course b_MO_course 8 (Option.some Jvm.ClassFile.FieldType.int) 5 := ⟨⟨g_826, g_8, by decide +kernel, by decide +kernel, by decide +kernel⟩, g_823, g_824, g_825⟩
theorem lk_law_74 : LkV "AnswerPostLaw" 74 y_AP_cost b_AP_cost 8 (Option.some Jvm.ClassFile.FieldType.int) 5 := ⟨⟨g_479, g_1, by decide +kernel, by decide +kernel, by decide +kernel⟩, g_476, g_477, g_478⟩
theorem lk_law_77 : LkV "AnswerPostLaw" 77 y_MO_cost b_MO_cost 6 (Option.some Jvm.ClassFile.FieldType.int) 5 := ⟨⟨g_846, g_8, by decide +kernel, by decide +kernel, by decide +kernel⟩, g_843, g_844, g_845⟩
theorem lk_law_78 : LkV "AnswerPostLaw" 78 y_AP_split b_AP_split 11 (Option.some Jvm.ClassFile.FieldType.int) 7 := ⟨⟨g_483, g_1, by decide +kernel, by decide +kernel, by decide +kernel⟩, g_480, g_481, g_482⟩
theorem lk_law_82 : LkV "AnswerPostLaw" 82 y_MO_split b_MO_split 10 (Option.some Jvm.ClassFile.FieldType.int) 7 := ⟨⟨g_850, g_8, by decide +kernel, by decide +kernel, by decide +kernel⟩, g_847, g_848, g_849⟩
theorem lk_law_83 : LkV "AnswerPostLaw" 83 y_AP_least b_AP_least 8 (Option.some Jvm.ClassFile.FieldType.int) 3 := ⟨⟨g_506, g_1, by decide +kernel, by decide +kernel, by decide +kernel⟩, g_503, g_504, g_505⟩
theorem lk_law_86 : LkV "AnswerPostLaw" 86 y_MO_least b_MO_least 8 (Option.some Jvm.ClassFile.FieldType.int) 3 := ⟨⟨g_866, g_8, by decide +kernel, by decide +kernel, by decide +kernel⟩, g_863, g_864, g_865⟩
theorem lk_law_87 : LkV "AnswerPostLaw" 87 y_AP_weights b_AP_weights 9 (Option.some Jvm.ClassFile.FieldType.int) 5 := ⟨⟨g_510, g_1, by decide +kernel, by decide +kernel, by decide +kernel⟩, g_507, g_508, g_509⟩
theorem lk_law_90 : LkV "AnswerPostLaw" 90 y_MO_weights b_MO_weights 11 (Option.some Jvm.ClassFile.FieldType.int) 5 := ⟨⟨g_870, g_8, by decide +kernel, by decide +kernel, by decide +kernel⟩, g_867, g_868, g_869⟩
theorem lk_law_91 : LkV "AnswerPostLaw" 91 y_AP_sheet b_AP_sheet 5 (Option.some Jvm.ClassFile.FieldType.int) 3 := ⟨⟨g_515, g_1, by decide +kernel, by decide +kernel, by decide +kernel⟩, g_512, g_513, g_514⟩
theorem lk_law_94 : LkV "AnswerPostLaw" 94 y_MO_sheet b_MO_sheet 5 (Option.some Jvm.ClassFile.FieldType.int) 3 := ⟨⟨g_874, g_8, by decide +kernel, by decide +kernel, by decide +kernel⟩, g_871, g_872, g_873⟩
theorem lk_law_95 : LkV "AnswerPostLaw" 95 y_AP_lose b_AP_lose 4 (Option.some Jvm.ClassFile.FieldType.int) 1 := ⟨⟨g_523, g_1, by decide +kernel, by decide +kernel, by decide +kernel⟩, g_520, g_521, g_522⟩
theorem lk_law_98 : LkV "AnswerPostLaw" 98 y_MO_lose b_MO_lose 3 (Option.some Jvm.ClassFile.FieldType.int) 1 := ⟨⟨g_878, g_8, by decide +kernel, by decide +kernel, by decide +kernel⟩, g_875, g_876, g_877⟩
theorem lk_law_99 : LkV "AnswerPostLaw" 99 y_AP_put b_AP_put 5 (Option.some Jvm.ClassFile.FieldType.int) 3 := ⟨⟨g_528, g_1, by decide +kernel, by decide +kernel, by decide +kernel⟩, g_525, g_526, g_527⟩
theorem lk_law_102 : LkV "AnswerPostLaw" 102 y_MO_put b_MO_put 4 (Option.some Jvm.ClassFile.FieldType.int) 3 := ⟨⟨g_882, g_8, by decide +kernel, by decide +kernel, by decide +kernel⟩, g_879, g_880, g_881⟩
theorem lk_law_103 : LkV "AnswerPostLaw" 103 y_AP_cell b_AP_cell 5 (Option.some Jvm.ClassFile.FieldType.long) 3 := ⟨⟨g_537, g_1, by decide +kernel, by decide +kernel, by decide +kernel⟩, g_534, g_535, g_536⟩
theorem lk_law_107 : LkV "AnswerPostLaw" 107 y_MO_cell b_MO_cell 4 (Option.some Jvm.ClassFile.FieldType.long) 3 := ⟨⟨g_886, g_8, by decide +kernel, by decide +kernel, by decide +kernel⟩, g_883, g_884, g_885⟩
theorem lk_law_108 : LkV "AnswerPostLaw" 108 y_AP_copy b_AP_copy 8 (Option.some Jvm.ClassFile.FieldType.int) 5 := ⟨⟨g_542, g_1, by decide +kernel, by decide +kernel, by decide +kernel⟩, g_539, g_540, g_541⟩
theorem lk_law_111 : LkV "AnswerPostLaw" 111 y_MO_copy b_MO_copy 10 (Option.some Jvm.ClassFile.FieldType.int) 5 := ⟨⟨g_895, g_8, by decide +kernel, by decide +kernel, by decide +kernel⟩, g_892, g_893, g_894⟩
theorem lk_law_112 : LkV "AnswerPostLaw" 112 y_AP_tell b_AP_tell 3 (Option.some Jvm.ClassFile.FieldType.int) 1 := ⟨⟨g_549, g_1, by decide +kernel, by decide +kernel, by decide +kernel⟩, g_546, g_547, g_548⟩
theorem lk_law_115 : LkV "AnswerPostLaw" 115 y_MO_tell b_MO_tell 3 (Option.some Jvm.ClassFile.FieldType.int) 1 := ⟨⟨g_899, g_8, by decide +kernel, by decide +kernel, by decide +kernel⟩, g_896, g_897, g_898⟩
theorem lk_law_116 : LkV "AnswerPostLaw" 116 y_AP_greet b_AP_greet 3 (Option.some Jvm.ClassFile.FieldType.int) 1 := ⟨⟨g_579, g_1, by decide +kernel, by decide +kernel, by decide +kernel⟩, g_576, g_577, g_578⟩
theorem lk_law_119 : LkV "AnswerPostLaw" 119 y_MO_greet b_MO_greet 2 (Option.some Jvm.ClassFile.FieldType.int) 1 := ⟨⟨g_907, g_8, by decide +kernel, by decide +kernel, by decide +kernel⟩, g_904, g_905, g_906⟩
theorem lk_law_120 : LkV "AnswerPostLaw" 120 y_AP_as b_AP_as 4 (Option.some Jvm.ClassFile.FieldType.int) 2 := ⟨⟨g_592, g_1, by decide +kernel, by decide +kernel, by decide +kernel⟩, g_589, g_590, g_591⟩
theorem lk_law_123 : LkV "AnswerPostLaw" 123 y_MO_as b_MO_as 3 (Option.some Jvm.ClassFile.FieldType.int) 2 := ⟨⟨g_911, g_8, by decide +kernel, by decide +kernel, by decide +kernel⟩, g_908, g_909, g_910⟩
theorem lk_law_124 : LkV "AnswerPostLaw" 124 y_AP_trace b_AP_trace 1 (Option.some Jvm.ClassFile.FieldType.int) 0 := ⟨⟨g_599, g_1, by decide +kernel, by decide +kernel, by decide +kernel⟩, g_596, g_597, g_598⟩
theorem lk_law_128 : LkV "AnswerPostLaw" 128 y_MO_trace b_MO_trace 1 (Option.some Jvm.ClassFile.FieldType.int) 0 := ⟨⟨g_915, g_8, by decide +kernel, by decide +kernel, by decide +kernel⟩, g_912, g_913, g_914⟩
theorem lk_law_129 : LkV "AnswerPostLaw" 129 y_AP_fault b_AP_fault 1 (Option.some Jvm.ClassFile.FieldType.int) 0 := ⟨⟨g_603, g_1, by decide +kernel, by decide +kernel, by decide +kernel⟩, g_600, g_601, g_602⟩
theorem lk_law_132 : LkV "AnswerPostLaw" 132 y_MO_fault b_MO_fault 1 (Option.some Jvm.ClassFile.FieldType.int) 0 := ⟨⟨g_919, g_8, by decide +kernel, by decide +kernel, by decide +kernel⟩, g_916, g_917, g_918⟩
theorem lk_law_133 : LkV "AnswerPostLaw" 133 y_AP_many b_AP_many 2 (Option.some Jvm.ClassFile.FieldType.int) 1 := ⟨⟨g_607, g_1, by decide +kernel, by decide +kernel, by decide +kernel⟩, g_604, g_605, g_606⟩
theorem lk_law_136 : LkV "AnswerPostLaw" 136 y_MO_many b_MO_many 2 (Option.some Jvm.ClassFile.FieldType.int) 1 := ⟨⟨g_923, g_8, by decide +kernel, by decide +kernel, by decide +kernel⟩, g_920, g_921, g_922⟩
theorem lk_MO_76 : LkS "AnswerPostModel" 76 y_MO_within b_MO_within 3 (Option.some Jvm.ClassFile.FieldType.boolean) 3 := ⟨⟨g_711, g_8, by decide +kernel, by decide +kernel, by decide +kernel⟩, g_709, g_710⟩
theorem lk_MO_83 : LkS "AnswerPostModel" 83 y_MO_isSheet b_MO_isSheet 1 (Option.some Jvm.ClassFile.FieldType.boolean) 1 := ⟨⟨g_708, g_8, by decide +kernel, by decide +kernel, by decide +kernel⟩, g_706, g_707⟩
theorem lk_MO_87 : LkS "AnswerPostModel" 87 y_MO_isSort b_MO_isSort 1 (Option.some Jvm.ClassFile.FieldType.boolean) 1 := ⟨⟨g_714, g_8, by decide +kernel, by decide +kernel, by decide +kernel⟩, g_712, g_713⟩
theorem lk_MO_90 : LkV "AnswerPostModel" 90 y_MO_against b_MO_against 5 (Option.some Jvm.ClassFile.FieldType.int) 4 := ⟨⟨g_718, g_8, by decide +kernel, by decide +kernel, by decide +kernel⟩, g_715, g_717, gs_11⟩
theorem lk_MO_94 : LkV "AnswerPostModel" 94 y_MO_fails b_MO_fails 2 (Option.some Jvm.ClassFile.FieldType.int) 1 := ⟨⟨g_722, g_8, by decide +kernel, by decide +kernel, by decide +kernel⟩, g_719, g_721, gs_12⟩
theorem lk_MO_101 : LkV "AnswerPostModel" 101 y_MO_readPost b_MO_readPost 2 (Option.some Jvm.ClassFile.FieldType.boolean) 1 := ⟨⟨g_726, g_8, by decide +kernel, by decide +kernel, by decide +kernel⟩, g_723, g_725, gs_13⟩
theorem lk_MO_113 : LkV "AnswerPostModel" 113 y_MO_readPerson b_MO_readPerson 4 (Option.some Jvm.ClassFile.FieldType.boolean) 1 := ⟨⟨g_730, g_8, by decide +kernel, by decide +kernel, by decide +kernel⟩, g_727, g_729, gs_14⟩
theorem lk_MO_116 : LkV "AnswerPostModel" 116 y_MO_isPerson b_MO_isPerson 2 (Option.some Jvm.ClassFile.FieldType.boolean) 1 := ⟨⟨g_738, g_8, by decide +kernel, by decide +kernel, by decide +kernel⟩, g_735, g_737, gs_15⟩
theorem lk_MO_119 : LkV "AnswerPostModel" 119 y_MO_shows b_MO_shows 4 (Option.some Jvm.ClassFile.FieldType.int) 2 := ⟨⟨g_746, g_8, by decide +kernel, by decide +kernel, by decide +kernel⟩, g_743, g_745, gs_16⟩
theorem lk_MO_123 : LkS "AnswerPostModel" 123 y_MO_isDay b_MO_isDay 1 (Option.some Jvm.ClassFile.FieldType.boolean) 1 := ⟨⟨g_757, g_8, by decide +kernel, by decide +kernel, by decide +kernel⟩, g_755, g_756⟩
theorem lk_MO_126 : LkV "AnswerPostModel" 126 y_MO_write b_MO_write 6 (Option.some Jvm.ClassFile.FieldType.int) 5 := ⟨⟨g_761, g_8, by decide +kernel, by decide +kernel, by decide +kernel⟩, g_758, g_760, gs_17⟩
theorem lk_MO_130 : LkV "AnswerPostModel" 130 y_MO_isLetter b_MO_isLetter 2 (Option.some Jvm.ClassFile.FieldType.boolean) 1 := ⟨⟨g_769, g_8, by decide +kernel, by decide +kernel, by decide +kernel⟩, g_766, g_768, gs_18⟩
theorem lk_MO_133 : LkV "AnswerPostModel" 133 y_MO_scaleOf b_MO_scaleOf 2 (Option.some Jvm.ClassFile.FieldType.int) 1 := ⟨⟨g_777, g_8, by decide +kernel, by decide +kernel, by decide +kernel⟩, g_774, g_776, gs_19⟩
theorem lk_MO_136 : LkV "AnswerPostModel" 136 y_MO_pays b_MO_pays 4 (Option.some Jvm.ClassFile.FieldType.int) 2 := ⟨⟨g_793, g_8, by decide +kernel, by decide +kernel, by decide +kernel⟩, g_790, g_792, gs_21⟩
theorem lk_MO_139 : LkV "AnswerPostModel" 139 y_MO_paidBy b_MO_paidBy 6 (Option.some Jvm.ClassFile.FieldType.int) 2 := ⟨⟨g_789, g_8, by decide +kernel, by decide +kernel, by decide +kernel⟩, g_786, g_788, gs_20⟩
theorem lk_MO_142 : LkV "AnswerPostModel" 142 y_MO_owed b_MO_owed 7 (Option.some Jvm.ClassFile.FieldType.int) 3 := ⟨⟨g_801, g_8, by decide +kernel, by decide +kernel, by decide +kernel⟩, g_798, g_800, gs_22⟩
theorem lk_MO_146 : LkV "AnswerPostModel" 146 y_MO_netOf b_MO_netOf 5 (Option.some Jvm.ClassFile.FieldType.int) 2 := ⟨⟨g_809, g_8, by decide +kernel, by decide +kernel, by decide +kernel⟩, g_806, g_808, gs_23⟩
theorem lk_MO_156 : LkV "AnswerPostModel" 156 y_MO_findBest b_MO_findBest 5 (Option.none) 2 := ⟨⟨g_822, g_8, by decide +kernel, by decide +kernel, by decide +kernel⟩, g_819, g_821, gs_24⟩
theorem lk_MO_160 : LkS "AnswerPostModel" 160 y_MO_spot b_MO_spot 2 (Option.some Jvm.ClassFile.FieldType.int) 2 := ⟨⟨g_837, g_8, by decide +kernel, by decide +kernel, by decide +kernel⟩, g_835, g_836⟩
theorem lk_MO_164 : LkV "AnswerPostModel" 164 y_MO_layTurn b_MO_layTurn 11 (Option.none) 5 := ⟨⟨g_841, g_8, by decide +kernel, by decide +kernel, by decide +kernel⟩, g_838, g_840, gs_27⟩
theorem lk_MO_168 : LkV "AnswerPostModel" 168 y_MO_areTwo b_MO_areTwo 3 (Option.some Jvm.ClassFile.FieldType.boolean) 2 := ⟨⟨g_830, g_8, by decide +kernel, by decide +kernel, by decide +kernel⟩, g_827, g_829, gs_25⟩
theorem lk_MO_172 : LkV "AnswerPostModel" 172 y_MO_layCourse b_MO_layCourse 9 (Option.none) 4 := ⟨⟨g_834, g_8, by decide +kernel, by decide +kernel, by decide +kernel⟩, g_831, g_833, gs_26⟩
theorem lk_MO_176 : LkV "AnswerPostModel" 176 y_MO_partPays b_MO_partPays 4 (Option.some Jvm.ClassFile.FieldType.int) 3 := ⟨⟨g_858, g_8, by decide +kernel, by decide +kernel, by decide +kernel⟩, g_855, g_857, gs_29⟩
theorem lk_MO_179 : LkV "AnswerPostModel" 179 y_MO_layParts b_MO_layParts 9 (Option.none) 3 := ⟨⟨g_854, g_8, by decide +kernel, by decide +kernel, by decide +kernel⟩, g_851, g_853, gs_28⟩
theorem lk_MO_183 : LkV "AnswerPostModel" 183 y_MO_partOf b_MO_partOf 7 (Option.some Jvm.ClassFile.FieldType.int) 3 := ⟨⟨g_862, g_8, by decide +kernel, by decide +kernel, by decide +kernel⟩, g_859, g_861, gs_30⟩
theorem lk_MO_186 : LkV "AnswerPostModel" 186 y_MO_lost b_MO_lost 2 (Option.some Jvm.ClassFile.FieldType.long) 1 := ⟨⟨g_891, g_8, by decide +kernel, by decide +kernel, by decide +kernel⟩, g_888, g_890, gs_31⟩
theorem lk_MO_193 : LkV "AnswerPostModel" 193 y_MO_begins b_MO_begins 2 (Option.none) 1 := ⟨⟨g_903, g_8, by decide +kernel, by decide +kernel, by decide +kernel⟩, g_900, g_902, gs_32⟩
