/-! a new person in the world -/
def gnew (g : wG) (pq a kd : Nat) : wG := (fun h => if h = 79 + pq then a else g.1 h, g.2.1, (fun q => if q = pq then kd else g.2.2.1 q), if pq = g.2.2.2 then g.2.2.2 + 1 else g.2.2.2)
theorem gnew_ad {g : wG} {pq a kd h : Nat} (hh : h ≠ 79 + pq) : wad (gnew g pq a kd) h = wad g h := if_neg hh
theorem gnew_me {g : wG} {pq a kd : Nat} : wad (gnew g pq a kd) (79 + pq) = a := if_pos rfl
theorem gnew_k {g : wG} {pq a kd q : Nat} (hh : q ≠ pq) : wK (gnew g pq a kd) q = wK g q := if_neg hh
theorem gnew_km {g : wG} {pq a kd : Nat} : wK (gnew g pq a kd) pq = kd := if_pos rfl
theorem gnew_m (g : wG) (pq a kd : Nat) : wm (gnew g pq a kd) = if pq = wm g then wm g + 1 else wm g := rfl
section GN
variable {g g' : wG} (h0 : ∀ h, h < 79 → wad g' h = wad g h) (h1 : g'.2.1 = g.2.1)
theorem eAP_c (h0 : ∀ h, h < 79 → wad g' h = wad g h) : eAP g' = eAP g := by funext f; unfold eAP; rw [h0 1 (by decide), h0 10 (by decide), h0 11 (by decide), h0 19 (by decide), h0 23 (by decide), h0 44 (by decide), h0 57 (by decide)]
theorem eRW_c (h0 : ∀ h, h < 79 → wad g' h = wad g h) {k : Nat} (hk : k < 4) : eRW g' k = eRW g k := by funext f; unfold eRW; rw [h0 (2 * k + 3) (by omega)]
theorem eLE_c (h0 : ∀ h, h < 79 → wad g' h = wad g h) : eLE g' = eLE g := by funext f; unfold eLE; rw [h0 12 (by decide), h0 13 (by decide), h0 14 (by decide), h0 15 (by decide), h0 16 (by decide), h0 17 (by decide), h0 18 (by decide)]
theorem eSE_c (h0 : ∀ h, h < 79 → wad g' h = wad g h) : eSE g' = eSE g := by funext f; unfold eSE; rw [h0 20 (by decide), h0 21 (by decide), h0 22 (by decide)]
theorem eTU_c (h0 : ∀ h, h < 79 → wad g' h = wad g h) : eTU g' = eTU g := by funext f; unfold eTU; rw [h0 24 (by decide), h0 33 (by decide), h0 36 (by decide), h0 39 (by decide), h0 42 (by decide), h0 43 (by decide)]
theorem ePA_c (h0 : ∀ h, h < 79 → wad g' h = wad g h) : ePA g' = ePA g := by funext f; unfold ePA; rw [h0 45 (by decide), h0 52 (by decide), h0 55 (by decide), h0 56 (by decide)]
theorem eMO_c (h0 : ∀ h, h < 79 → wad g' h = wad g h) : eMO g' = eMO g := by funext f; unfold eMO; rw [h0 59 (by decide), h0 60 (by decide), h0 61 (by decide), h0 62 (by decide), h0 63 (by decide), h0 64 (by decide), h0 65 (by decide), h0 66 (by decide), h0 67 (by decide), h0 68 (by decide), h0 69 (by decide), h0 70 (by decide), h0 71 (by decide), h0 72 (by decide), h0 73 (by decide), h0 74 (by decide), h0 75 (by decide), h0 76 (by decide), h0 77 (by decide), h0 78 (by decide)]
theorem wrow_c (h0 : ∀ h, h < 79 → wad g' h = wad g h) {b n : Nat} (hb : b + n ≤ 79) : wrow g' b n = wrow g b n := by
  funext i
  unfold wrow
  by_cases h : i < n
  · rw [if_pos h, if_pos h, h0 (b + i) (by omega)]
  · rw [if_neg h, if_neg h]
theorem wsh_c (h0 : ∀ h, h < 79 → wad g' h = wad g h) : (fun i => if i < 4 then some (wad g' (2 * i + 2)) else none) = (fun i => if i < 4 then some (wad g (2 * i + 2)) else none) := by
  funext i
  by_cases h : i < 4
  · rw [if_pos h, if_pos h, h0 (2 * i + 2) (by omega)]
  · rw [if_neg h, if_neg h]
theorem wtL_c (h0 : ∀ h, h < 79 → wad g' h = wad g h) (h1 : g'.2.1 = g.2.1) : wtL g' = (wtL g).set 10 (fun _ => eQ (wcW g) 6 (wrow g' 79 (wm g'))) := by
  have e1 : wcI g' = wcI g := congrArg (fun x => x.1) h1
  have e2 : wcR g' = wcR g := congrArg (fun x => x.2.1) h1
  have e3 : wcW g' = wcW g := congrArg (fun x => x.2.2.1) h1
  have e4 : wcII g' = wcII g := congrArg (fun x => x.2.2.2) h1
  have e5 : eI g' = eI g := by funext n f; unfold eI; rw [e1]
  unfold wtL
  rw [eAP_c h0, eRW_c h0 (show 0 < 4 by decide), eRW_c h0 (show 1 < 4 by decide), eRW_c h0 (show 2 < 4 by decide), eRW_c h0 (show 3 < 4 by decide), eLE_c h0, eSE_c h0, eTU_c h0, ePA_c h0, eMO_c h0, e5, e2, e3, e4, wsh_c h0, wrow_c h0 (show 25 + 8 ≤ 79 by decide), wrow_c h0 (show 34 + 2 ≤ 79 by decide), wrow_c h0 (show 37 + 2 ≤ 79 by decide), wrow_c h0 (show 40 + 2 ≤ 79 by decide), wrow_c h0 (show 46 + 6 ≤ 79 by decide), wrow_c h0 (show 53 + 2 ≤ 79 by decide)]
  rfl
end GN
theorem wtL_len (g : wG) : (wtL g).length = 79 := rfl
theorem wt_new {g : wG} {pq a kd : Nat} {k : Nat} (hk : k < 79) (h10 : k ≠ 10) (f : Nat → Int32) : wt (gnew g pq a kd) k f = wt g k f := by
  unfold wt
  rw [wtL_c (g := g) (g' := gnew g pq a kd) (fun h hh => gnew_ad (by omega)) rfl, List.getElem?_set_ne (Ne.symm h10)]
  rw [List.getElem?_eq_getElem (by rw [wtL_len]; exact hk)]
theorem wt_per' (g : wG) {k : Nat} (hk : 79 ≤ k) (f : Nat → Int32) : wt g k f = eWR (wK g (k - 79)) f := by
  have h := wt_per g (k - 79) f
  rw [show 79 + (k - 79) = k by omega] at h
  exact h
/-- a world that is picked out of another one -/
theorem va_sel {D : va_G} {A : Nat → Prop} {H : Heap} {w0 w1 : va_W} (io : Nat → Nat) (h1 : ∀ (k : Nat) (q : Nat × va_E), w1[k]? = some q → w0[io k]? = some q) (h2 : ∀ i j, i < w1.length → j < w1.length → io i = io j → i = j) (hP : va_P D classes w0 H) (hD : va_D A w0) : va_P D classes w1 H ∧ va_D A w1 := by
  refine ⟨fun k q hk => hP _ q (h1 k q hk), fun i j x y hi hj hxy => ?_, fun k q hk => hD.2 _ q (h1 k q hk)⟩
  exact h2 i j (List.getElem?_eq_some_iff.mp hi).1 (List.getElem?_eq_some_iff.mp hj).1 (hD.1 _ _ x y (h1 i x hi) (h1 j y hj) hxy)
theorem wl_new {D : va_G} {A : Nat → Prop} {H : Heap} {g : wG} {F : wF} {pq a kd : Nat} {x0 x1 : Int32} (hm : pq ≤ wm g) (hP : va_P D classes ((wl g F ++ [(a, (Sum.inr (7 + kd, [Value.int x0, Value.int x1]) : va_E))]).set 10 (wad g 10, eQ (wcW g) 6 (va_up (wrow g 79 (wm g)) pq (some a)))) H) (hD : va_D A ((wl g F ++ [(a, (Sum.inr (7 + kd, [Value.int x0, Value.int x1]) : va_E))]).set 10 (wad g 10, eQ (wcW g) 6 (va_up (wrow g 79 (wm g)) pq (some a))))) :
    va_P D classes (wl (gnew g pq a kd) (u2 (u2 F (79 + pq) 0 x0) (79 + pq) 1 x1)) H ∧ va_D A (wl (gnew g pq a kd) (u2 (u2 F (79 + pq) 0 x0) (79 + pq) 1 x1)) := by
  have hwm : wm (gnew g pq a kd) = if pq = wm g then wm g + 1 else wm g := rfl
  have hlen := wl_len (gnew g pq a kd) (u2 (u2 F (79 + pq) 0 x0) (79 + pq) 1 x1)
  refine va_sel (fun k => if k = 79 + pq then 79 + wm g else k) (fun k q hk => ?_) (fun i j hi hj hij => ?_) hP hD
  · have hlt : k < 79 + wm (gnew g pq a kd) := by rw [← hlen]; exact (List.getElem?_eq_some_iff.mp hk).1
    rw [wl_at hlt] at hk
    cases hk
    by_cases e : k = 79 + pq
    · subst e
      show ((wl g F ++ _).set 10 _)[if 79 + pq = 79 + pq then 79 + wm g else 79 + pq]? = _
      rw [if_pos rfl, List.getElem?_set_ne (by omega), List.getElem?_append_right (by rw [wl_len]; exact Nat.le_refl _), wl_len, Nat.sub_self, gnew_me, wt_per, gnew_km]
      show some (a, _) = some (a, eWR kd _)
      unfold eWR
      rw [u2_i (by decide), u2_same, u2_same]
    · show ((wl g F ++ _).set 10 _)[if k = 79 + pq then 79 + wm g else k]? = _
      rw [if_neg e, gnew_ad e]
      have hlt2 : k < 79 + wm g := by rw [hwm] at hlt; split at hlt <;> omega
      by_cases e10 : k = 10
      · subst e10
        rw [List.getElem?_set_self (by rw [List.length_append, wl_len]; omega)]
        congr 2
        show eQ (wcW g) 6 _ = eQ (wcW g) 6 (wrow (gnew g pq a kd) 79 (wm (gnew g pq a kd)))
        congr 1
        funext i
        unfold wrow va_up
        by_cases ei : i = pq
        · rw [if_pos ei, ei, if_pos (by rw [hwm]; split <;> omega), gnew_me]
        · rw [if_neg ei, gnew_ad (show 79 + i ≠ 79 + pq by omega), hwm]
          show (if i < wm g then _ else _) = _
          by_cases h : i < wm g
          · rw [if_pos h, if_pos (by split <;> omega)]
          · rw [if_neg h, if_neg (by split <;> omega)]
      · rw [List.getElem?_set_ne (Ne.symm e10), List.getElem?_append_left (by rw [wl_len]; exact hlt2), wl_at hlt2, u2_ne k e, u2_ne k e]
        congr 2
        by_cases hk : k < 79
        · exact (wt_new hk e10 _).symm
        · rw [wt_per' _ (show 79 ≤ k by omega), wt_per' _ (show 79 ≤ k by omega), gnew_k (show k - 79 ≠ pq by omega)]
  · rw [hlen, hwm] at hi hj
    show i = j
    have hij : (if i = 79 + pq then 79 + wm g else i) = (if j = 79 + pq then 79 + wm g else j) := hij
    have hi9 : i < 79 + wm g ∨ pq = wm g := by
      by_cases e9 : pq = wm g
      · exact Or.inr e9
      · rw [if_neg e9] at hi; exact Or.inl hi
    have hj9 : j < 79 + wm g ∨ pq = wm g := by
      by_cases e9 : pq = wm g
      · exact Or.inr e9
      · rw [if_neg e9] at hj; exact Or.inl hj
    have hi8 : i < 79 + wm g + 1 := by split at hi <;> omega
    have hj8 : j < 79 + wm g + 1 := by split at hj <;> omega
    by_cases e1 : i = 79 + pq
    · by_cases e2 : j = 79 + pq
      · omega
      · rw [if_pos e1, if_neg e2] at hij; omega
    · by_cases e2 : j = 79 + pq
      · rw [if_neg e1, if_pos e2] at hij; omega
      · rw [if_neg e1, if_neg e2] at hij; exact hij
section PN
variable {p : Program} {l : Launch} {e : Env} {R : Room} {s : State} {m : MethodId} {args : Array Value} {below : List Frame} {meth : Method} {c : Code} {H : Heap} {locs : List Loc} {cells slots : Nat} {Q : State → Prop}
variable {cc : ByteArray} {pc : Nat} {ls : Array Slot} {lv : List (Nat × Value)} {D : va_G} {A : Nat → Prop} {H0 : Heap} {nL : Nat} {g : wG} {F : wF}
theorem r_person (hc : CallFix p m c cc nL s args gws R_AP) (hw : Wd D g F A H0 H locs s) {pq kd lt lf : Nat} (h6 : pq < 6) (hm : pq ≤ wm g) (hk : lt = 119 ∧ kd = 0 ∨ lt = 109 ∧ kd = 1 ∨ lt = 108 ∧ kd = 2) (hfr : 5 ≤ R.frames ∧ 158 ≤ R.locals) (hce : cells + 1 ≤ R.cells) (hsl : slots + 2 ≤ R.slots) (hl : lv_has ls nL lv) (hd1 : decode cc pc = .ok (.invokestatic 270, 3)) (hd2 : decode cc (pc + 3) = .ok (.aastore, 1))
    (kk : ∀ (a : Nat) (H1 : Heap) (locs1 : List Loc), Wd D (gnew g pq a kd) (u2 (u2 F (79 + pq) 0 (nI pq)) (79 + pq) 1 (nI lf)) A H0 H1 locs1 s → W p l e R s m args below meth c H1 locs1 (cells + 1) (slots + 2) Q (F0 m (pc + 3 + 1) ls [])) : W p l e R s m args below meth c H locs cells slots Q (F0 m pc ls [.int (nI lf), .int (nI pq), .int (nI lt), .int (nI pq), .ref (wad g 10)]) := by
  obtain ⟨hK, hP, hD, hS, hA, hN⟩ := hw
  have hw0 : Wv D (fun _ => True) g (wl g F ++ []) A H0 H locs s := ⟨hK, by rw [List.append_nil]; exact hP, by rw [List.append_nil]; exact hD, hS, hA, hN, trivial⟩
  have h10 : ∀ x : Nat × va_E, (wl g F ++ [x])[10]? = some (wad g 10, eQ (wcW g) 6 (wrow g 79 (wm g))) := fun x => by
    rw [List.getElem?_append_left (by rw [wl_len]; omega), wl_at (by omega)]; rfl
  have hla : ∀ x : Nat × va_E, (wl g F ++ [x])[79 + wm g]? = some x := fun x => by
    rw [List.getElem?_append_right (by rw [wl_len]; exact Nat.le_refl _), wl_len, Nat.sub_self]; rfl
  rcases hk with ⟨rfl, rfl⟩ | ⟨rfl, rfl⟩ | ⟨rfl, rfl⟩
  · refine kVS XM_t hc hw0 lk_AP_270 (As := [.int (nI 119), .int (nI pq), .int (nI lf)]) (rest := [.int (nI pq), .ref (wad g 10)]) (c_AP_newPerson_0 l D (fun _ => True) XM_t g (wl g F) (nI pq) (nI lf)) hfr ⟨hce, hsl⟩ rfl hl rfl (Nat.le_of_ble_eq_true rfl) hd1 (fun v9 ws9 H1 locs1 hp9 hw9 => ?_)
    obtain ⟨q, rfl, rfl⟩ := hp9
    obtain ⟨hK, hP, hD, hS, hA, hN, -⟩ := hw9
    refine va_astq hc.1 hc.2.1 hK hP hD hS 10 2 (79 + wm g) 7 (h10 _) rfl (hla _) rfl (vp_in_nI h6 (by decide)) hd2 (fun H2 locs2 hP hD hS => ?_)
    rw [nI_clamp (by omega)] at hP hD
    obtain ⟨hP, hD⟩ := wl_new (kd := 0) hm hP hD
    exact kk q H2 locs2 ⟨hK, hP, hD, hS, hA, hN⟩
  · refine kVS XM_t hc hw0 lk_AP_270 (As := [.int (nI 109), .int (nI pq), .int (nI lf)]) (rest := [.int (nI pq), .ref (wad g 10)]) (c_AP_newPerson_1 l D (fun _ => True) XM_t g (wl g F) (nI pq) (nI lf)) hfr ⟨hce, hsl⟩ rfl hl rfl (Nat.le_of_ble_eq_true rfl) hd1 (fun v9 ws9 H1 locs1 hp9 hw9 => ?_)
    obtain ⟨q, rfl, rfl⟩ := hp9
    obtain ⟨hK, hP, hD, hS, hA, hN, -⟩ := hw9
    refine va_astqO hc.1 hc.2.1 hK hP hD hS 10 2 (79 + wm g) 8 (h10 _) rfl (hN.1 _ (List.mem_of_getElem? (i := 12) rfl)) (hla _) rfl (vp_in_nI h6 (by decide)) hd2 (fun H2 locs2 hP hD hS => ?_)
    rw [nI_clamp (by omega)] at hP hD
    obtain ⟨hP, hD⟩ := wl_new (kd := 1) hm hP hD
    exact kk q H2 locs2 ⟨hK, hP, hD, hS, hA, hN⟩
  · refine kVS XM_t hc hw0 lk_AP_270 (As := [.int (nI 108), .int (nI pq), .int (nI lf)]) (rest := [.int (nI pq), .ref (wad g 10)]) (c_AP_newPerson_2 l D (fun _ => True) XM_t g (wl g F) (nI pq) (nI lf)) hfr ⟨hce, hsl⟩ rfl hl rfl (Nat.le_of_ble_eq_true rfl) hd1 (fun v9 ws9 H1 locs1 hp9 hw9 => ?_)
    obtain ⟨q, rfl, rfl⟩ := hp9
    obtain ⟨hK, hP, hD, hS, hA, hN, -⟩ := hw9
    refine va_astqO hc.1 hc.2.1 hK hP hD hS 10 2 (79 + wm g) 9 (h10 _) rfl (hN.1 _ (List.mem_of_getElem? (i := 13) rfl)) (hla _) rfl (vp_in_nI h6 (by decide)) hd2 (fun H2 locs2 hP hD hS => ?_)
    rw [nI_clamp (by omega)] at hP hD
    obtain ⟨hP, hD⟩ := wl_new (kd := 2) hm hP hD
    exact kk q H2 locs2 ⟨hK, hP, hD, hS, hA, hN⟩
end PN
-- what a text that has no fault says
theorem ff_inv {c : Nat → Int32} {n : Nat} (h : ff c n = none) : (∀ a, a < n → gos c a = true) ∧ n = 1 + 3 * ((n - 1) / 3) ∧ 2 ≤ (n - 1) / 3 := by
  have h1 : ∀ k, k ≤ n → ∀ a, a < k → gos c a = true := by
    intro k
    induction k with
    | zero => intro _ a ha; exact absurd ha (Nat.not_lt_zero _)
    | succ k ih =>
      intro hk a ha
      have h2 := ih (by omega)
      rcases (show a < k ∨ a = k by omega) with e | e
      · exact h2 a e
      · subst e
        by_cases h3 : gos c a = true
        · exact h3
        · rw [ff_at (by omega) h2 h3] at h; cases h
  refine ⟨h1 n (Nat.le_refl _), ?_⟩
  rw [ff_end (h1 n (Nat.le_refl _))] at h
  split at h
  · assumption
  · cases h
theorem ff_six {c : Nat → Int32} {n : Nat} (h : ∀ a, a < n → gos c a = true) (hn : n = 1 + 3 * ((n - 1) / 3)) : (n - 1) / 3 ≤ 6 := by
  rcases (show (n - 1) / 3 ≤ 6 ∨ 7 ≤ (n - 1) / 3 by omega) with e | e
  · exact e
  · exact absurd (h 19 (by omega)) (gos_6q (q := 19) rfl)
theorem pf_ok {c : Nat → Int32} {n mm q : Nat} (h : ∀ a, a < n → gos c a = true) (hn : n = 1 + 3 * mm) (hq : q < mm) (h6 : mm ≤ 6) :
    ∃ lt kd t u, c (1 + 3 * q) = nI lt ∧ kdT (c (1 + 3 * q)) = kd ∧ (lt = 119 ∧ kd = 0 ∨ lt = 109 ∧ kd = 1 ∨ lt = 108 ∧ kd = 2) ∧ c (1 + 3 * q + 1) = nI (48 + t) ∧ c (1 + 3 * q + 2) = nI (48 + u) ∧ t ≤ 4 ∧ u ≤ 9 ∧ lfT (c (1 + 3 * q + 1)) (c (1 + 3 * q + 2)) = 10 * t + u ∧ 1 ≤ 10 * t + u ∧ 10 * t + u ≤ 40 := by
  have g0 := h (1 + 3 * q) (by omega)
  have g1 := h (1 + 3 * q + 1) (by omega)
  have g2 := h (1 + 3 * q + 2) (by omega)
  rw [gos_0q (m := q) (by omega) rfl, decide_eq_true_eq] at g0
  rw [gos_1q (m := q) (by omega) rfl, decide_eq_true_eq] at g1
  rw [gos_2q (m := q) (by omega) rfl] at g2
  obtain ⟨t, ht, t1, t2⟩ := rng_nat (x := c (1 + 3 * q + 1)) (a := 48) (b := 52) g1 (by decide)
  have g3 : 48 ≤ (c (1 + 3 * q + 2)).toInt ∧ (c (1 + 3 * q + 2)).toInt ≤ 57 := Decidable.byContradiction fun q9 => sec_no q9 g2
  obtain ⟨u, hu, u1, u3⟩ := rng_nat (x := c (1 + 3 * q + 2)) (a := 48) (b := 57) g3 (by decide)
  rw [ht, hu, sec_tu (by omega) (by omega) (by omega) (by omega)] at g2
  have hlf : lfT (c (1 + 3 * q + 1)) (c (1 + 3 * q + 2)) = 10 * (t - 48) + (u - 48) := by rw [ht, hu]; unfold lfT; rw [tn_nI (by omega), tn_nI (by omega)]
  have hkd : ∀ lt : Nat, lt < 1000 → (c (1 + 3 * q)).toInt = (lt : Int) → c (1 + 3 * q) = nI lt := fun lt h1 h2 => Int32.toInt_inj.mp (h2.trans (nI_tI (by omega)).symm)
  rcases g0 with e | e | e
  · exact ⟨119, 0, t - 48, u - 48, hkd 119 (by decide) e, by unfold kdT; rw [if_pos e], Or.inl ⟨rfl, rfl⟩, by rw [ht]; congr 1; omega, by rw [hu]; congr 1; omega, by omega, by omega, hlf, by omega, by omega⟩
  · exact ⟨109, 1, t - 48, u - 48, hkd 109 (by decide) e, by unfold kdT; rw [if_neg (by omega), if_pos e], Or.inr (Or.inl ⟨rfl, rfl⟩), by rw [ht]; congr 1; omega, by rw [hu]; congr 1; omega, by omega, by omega, hlf, by omega, by omega⟩
  · exact ⟨108, 2, t - 48, u - 48, hkd 108 (by decide) e, by unfold kdT; rw [if_neg (by omega), if_neg (by omega)], Or.inr (Or.inr ⟨rfl, rfl⟩), by rw [ht]; congr 1; omega, by rw [hu]; congr 1; omega, by omega, by omega, hlf, by omega, by omega⟩
