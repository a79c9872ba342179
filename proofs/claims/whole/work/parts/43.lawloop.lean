/-! THE CLAIM OUT OF ONE WALK OF THE LAW'S BODY. Your part is whole_start (and what it stands on); all else here is the same for every law, but numbers. -/
def R_law : String := "AnswerPostLaw"
def lw_P (b : Addr) (xs : List Int32) (args : Array Value) (s : State) : Prop := args = #[.ref b] ∧ s.IntsAt b xs ∧ xs.length ≤ 4096 ∧ (Jvm.Cond.and given_1 narrow_1).before args s = true
def lw_Q (_ : Array Value) (s : State) (o : Outcome) (t : State) : Prop := o = .returned (some (.int 1)) ∧ Framed s o t [] 600000 7302250
def lw_Z (below : List Frame) (a : Array Value) (s : State) : State → Prop := fun t => ∃ o, t.status = .running ∧ Ended t below o ∧ lw_Q a s o t
/-- the law's own end, with 1 on the stack, nothing written that was there before, its room as the claim has it -/
theorem lw_ret {p : Program} {l : Launch} {e : Env} {s : State} {m : MethodId} {below : List Frame} {meth : Method} {c : Code} {b : Nat} (hx : p.tables.exec = Jvm.exec) (hb : c.code = code) (hr : meth.sig.returnType = ret) (hlocks : meth.locks = false) {pc : Nat} {H : Heap} {ls : Array Slot} (hdg : decode code pc = .ok (.ireturn, 1)) : W p l e room_1 s m #[Value.ref b] below meth c H [] 600000 7302250 (lw_Z below #[Value.ref b] s) (F0 m pc ls [.int 1]) := by
  intro T hT X
  obtain ⟨fs, hret, hrun, hended, hW, hframe⟩ := X.leave (v := some (.int 1)) (hlocks := hlocks) (fun h => by rw [hr] at h; cases h)
  have hmeth' : T.vm.method? m = some meth := X.method'
  refine ⟨T.setFrames fs, ?_, .returned (some (.int 1)), hrun, hended, rfl, ⟨_, rfl⟩, hW, hframe⟩
  jvm_step X.here [X.here.top, hx, hb, hdg, hmeth', hr, ret, narrow_b1]
  (try refine ⟨rfl, ?_⟩); (try refine ⟨rfl, ?_⟩)
  first | (intro acts; rw [hret _ acts rfl rfl rfl]) | rw [hret _ _ rfl rfl rfl]
  exact Steps.refl _
/-- what holds at the law's entry: the machine, the code, the tables' words (any of lw_tbl by 'hts w (by decide +kernel)'), the script of L ints xs at the cell b, what the Statement gives of the start (any of its parts by flat_of_before) -/
def lw_At (p : Program) (s : State) (m : MethodId) (meth : Method) (c : Code) (b L : Nat) (xs : Nat → Int32) : Prop :=
  p.tables.exec = Jvm.exec ∧ c.code = code ∧ meth.sig.returnType = ret ∧ c.maxLocals = 4 ∧ s.vm.findClass R_law = some m.cls ∧ (∀ w ∈ lw_tbl, w.before #[Value.ref b] s = true) ∧ va_X b L xs s s.heap ∧ b < s.heap.size ∧ meth.locks = false ∧ (Jvm.Cond.and given_1 narrow_1).before #[Value.ref b] s = true
theorem law_loop {p : Program} {e : Env} {s : State} {m : MethodId} {below : List Frame} {meth : Method} {c : Code} (l : Launch) {b L : Nat} {xs : Nat → Int32} (hL : L ≤ 4096) (C0 : lw_At p s m meth c b L xs) (D : va_G) : ∀ (n k : Nat) (g : wG) (F : wF) (P : PSt) (lw : Nat) (L9 : LSt) (S : SSt) (tr ft : Int32) (H : Heap) (locs : List Loc) (ls : Array Slot), L - 8 * k < n → 8 * k ≤ L → GI g P lw L9 S → CI g F P lw L9 S tr ft → MI g F P lw L9 S tr ft → Wd D g F (fun q => s.heap.size ≤ q) s.heap H locs s → lv_has ls 4 [(0, .ref b), (1, .ref (wad g 0)), (2, .ref (wad g 58)), (3, .int (nI (8 * k)))] →
    W p l e room_1 s m #[Value.ref b] below meth c H locs (6 * k + 79) (12 * k + 4341) (lw_Z below #[Value.ref b] s) (F0 m 18 ls []) := by
  obtain ⟨hx, hb, hr, hml, hown, hts, hX, hbl, hlocks, hgv⟩ := id C0
  have hc : CallFix p m c code 4 s #[Value.ref b] gws R_law0 := ⟨hx, hb, hml, hown, fun w hw => hts w (List.mem_filter.mp hw).1⟩
  have hbA : ¬ (fun q : Nat => s.heap.size ≤ q) b := Nat.not_le.mpr hbl
  intro n
  induction n with
  | zero => intro k g F P lw L9 S tr ft H locs ls h; exact absurd h (Nat.not_lt_zero _)
  | succ n ih =>
    intro k g F P lw L9 S tr ft H locs ls hm hk hG hC hM hw hl
    obtain ⟨pc, lf⟩ := P
    obtain ⟨cn, fr, to, hv, dy, an, af⟩ := L9
    obtain ⟨ln, sz, ce⟩ := S
    refine lv_iload_n hx hb d_law_18 rfl (lv_at hl 3 rfl) ?_
    refine lv_aload_n hx hb d_law_19 rfl (lv_at hl 0 rfl) ?_
    refine va_slen hx hb hX hbl hbA hw.2.2.2.1 d_law_20 ?_
    refine lv_bipush (v := nI 8) hx hb d_law_21 (by decide) ?_
    refine lv_isub hx hb d_law_23 ?_
    refine u_icmp_gt (tgt := 1302) (X := ((8 * k : Nat) : Int)) (Y := (L : Int) - ((8 : Nat) : Int)) hc (nI_tI (by omega)) (pk_sub_toInt (a := L) (b := 8) (by omega) (by decide)) d_law_24 (by decide) (fun c1 => ?_) (fun c1 => ?_)
    · refine lv_iconst (v := 1) hx hb d_law_1302 (by decide) ?_
      refine va_forget hw.2.2.2.1.2.2 (W.widen (k := 600000) (n := 7302250) (by omega) (by omega) ?_)
      exact lw_ret hx hb hr hlocks d_law_1303
    refine lv_aload_n hx hb d_law_27 rfl (lv_at hl 0 rfl) ?_
    refine lv_iload_n hx hb d_law_28 rfl (lv_at hl 3 rfl) ?_
    refine va_sld hx hb hX hbl hbA hw.2.2.2.1 (vp_in_nI (show 8 * k < L by omega) (by omega)) d_law_29 ?_
    rw [nI_clamp (show 8 * k < 2 ^ 31 by omega)]
    refine lv_bipush (v := nI 31) hx hb d_law_30 (by decide) ?_
    refine lv_iand hx hb d_law_32 ?_
    obtain ⟨z, hz, ez⟩ := m31 (xs (8 * k))
    rw [ez]
    have hkk : lw_K p l e s m below meth c b (8 * k) (6 * k + 79) (12 * k + 4341) D (fun q => s.heap.size ≤ q) (lw_Z below #[Value.ref b] s) := by
      intro g F P lw L9 S tr ft H locs ls h1 h2 h3 h4 h5
      refine lv_iinc (v := nI (8 * (k + 1))) (lv' := [(3, .int (nI (8 * (k + 1)))), (0, .ref b), (1, .ref (wad g 0)), (2, .ref (wad g 58))]) hx hb d_law_1296 h5 (k := 3) rfl (show nI (8 * k) + Int32.ofInt 8 = nI (8 * (k + 1)) from by rw [show Int32.ofInt 8 = nI 8 from by decide, nI_add]; rfl) (by decide) rfl (fun ls hl => ?_)
      refine lv_goto (tgt := 18) hx hb d_law_1299 (by decide) ?_
      refine W.widen (k := 6 * (k + 1) + 79) (n := 12 * (k + 1) + 4341) (by omega) (by omega) ?_
      exact ih (k + 1) g F P lw L9 S tr ft H locs ls (by omega) (by omega) h1 h2 h3 h4 (lv_sub hl [1, 2, 3, 0] rfl)
    rcases (show z = 0 ∨ z = 1 ∨ z = 2 ∨ z = 3 ∨ z = 4 ∨ z = 5 ∨ z = 6 ∨ z = 7 ∨ z = 8 ∨ z = 9 ∨ z = 10 ∨ z = 11 ∨ z = 12 ∨ z = 13 ∨ z = 14 ∨ z = 15 ∨ z = 16 ∨ z = 17 ∨ z = 18 ∨ z = 19 ∨ z = 20 ∨ z = 21 ∨ z = 22 ∨ z = 23 ∨ z = 24 ∨ z = 25 ∨ z = 26 ∨ z = 27 ∨ z = 28 ∨ 29 ≤ z by omega) with rfl | rfl | rfl | rfl | rfl | rfl | rfl | rfl | rfl | rfl | rfl | rfl | rfl | rfl | rfl | rfl | rfl | rfl | rfl | rfl | rfl | rfl | rfl | rfl | rfl | rfl | rfl | rfl | rfl | hz9
    · refine lv_tableIn (tgt := 164) hx hb d_law_33 (by decide) (by decide) (show _ = some 131 from rfl) (by decide) ?_
      exact lc_0 hc hX hbl hbA hL (by omega) (by omega) (by omega) pc lf lw cn fr to hv dy an af ln sz ce tr ft hG hC hM hw hl hkk
    · refine lv_tableIn (tgt := 217) hx hb d_law_33 (by decide) (by decide) (show _ = some 184 from rfl) (by decide) ?_
      exact lc_1 hc hX hbl hbA hL (by omega) (by omega) (by omega) pc lf lw cn fr to hv dy an af ln sz ce tr ft hG hC hM hw hl hkk
    · refine lv_tableIn (tgt := 250) hx hb d_law_33 (by decide) (by decide) (show _ = some 217 from rfl) (by decide) ?_
      exact lc_2 hc hX hbl hbA hL (by omega) (by omega) (by omega) pc lf lw cn fr to hv dy an af ln sz ce tr ft hG hC hM hw hl hkk
    · refine lv_tableIn (tgt := 283) hx hb d_law_33 (by decide) (by decide) (show _ = some 250 from rfl) (by decide) ?_
      exact lc_3 hc hX hbl hbA hL (by omega) (by omega) (by omega) pc lf lw cn fr to hv dy an af ln sz ce tr ft hG hC hM hw hl hkk
    · refine lv_tableIn (tgt := 306) hx hb d_law_33 (by decide) (by decide) (show _ = some 273 from rfl) (by decide) ?_
      exact lc_4 hc hX hbl hbA hL (by omega) (by omega) (by omega) pc lf lw cn fr to hv dy an af ln sz ce tr ft hG hC hM hw hl hkk
    · refine lv_tableIn (tgt := 359) hx hb d_law_33 (by decide) (by decide) (show _ = some 326 from rfl) (by decide) ?_
      exact lc_5 hc hX hbl hbA hL (by omega) (by omega) (by omega) pc lf lw cn fr to hv dy an af ln sz ce tr ft hG hC hM hw hl hkk
    · refine lv_tableIn (tgt := 402) hx hb d_law_33 (by decide) (by decide) (show _ = some 369 from rfl) (by decide) ?_
      exact lc_6 hc hX hbl hbA hL (by omega) (by omega) (by omega) pc lf lw cn fr to hv dy an af ln sz ce tr ft hG hC hM hw hl hkk
    · refine lv_tableIn (tgt := 435) hx hb d_law_33 (by decide) (by decide) (show _ = some 402 from rfl) (by decide) ?_
      exact lc_7 hc hX hbl hbA hL (by omega) (by omega) (by omega) pc lf lw cn fr to hv dy an af ln sz ce tr ft hG hC hM hw hl hkk
    · refine lv_tableIn (tgt := 458) hx hb d_law_33 (by decide) (by decide) (show _ = some 425 from rfl) (by decide) ?_
      exact lc_8 hc hX hbl hbA hL (by omega) (by omega) (by omega) pc lf lw cn fr to hv dy an af ln sz ce tr ft hG hC hM hw hl hkk
    · refine lv_tableIn (tgt := 491) hx hb d_law_33 (by decide) (by decide) (show _ = some 458 from rfl) (by decide) ?_
      exact lc_9 hc hX hbl hbA hL (by omega) (by omega) (by omega) pc lf lw cn fr to hv dy an af ln sz ce tr ft hG hC hM hw hl hkk
    · refine lv_tableIn (tgt := 534) hx hb d_law_33 (by decide) (by decide) (show _ = some 501 from rfl) (by decide) ?_
      exact lc_10 hc hX hbl hbA hL (by omega) (by omega) (by omega) pc lf lw cn fr to hv dy an af ln sz ce tr ft hG hC hM hw hl hkk
    · refine lv_tableIn (tgt := 567) hx hb d_law_33 (by decide) (by decide) (show _ = some 534 from rfl) (by decide) ?_
      exact lc_11 hc hX hbl hbA hL (by omega) (by omega) (by omega) pc lf lw cn fr to hv dy an af ln sz ce tr ft hG hC hM hw hl hkk
    · refine lv_tableIn (tgt := 590) hx hb d_law_33 (by decide) (by decide) (show _ = some 557 from rfl) (by decide) ?_
      exact lc_12 hc hX hbl hbA hL (by omega) (by omega) (by omega) pc lf lw cn fr to hv dy an af ln sz ce tr ft hG hC hM hw hl hkk
    · refine lv_tableIn (tgt := 633) hx hb d_law_33 (by decide) (by decide) (show _ = some 600 from rfl) (by decide) ?_
      exact lc_13 hc hX hbl hbA hL (by omega) (by omega) (by omega) pc lf lw cn fr to hv dy an af ln sz ce tr ft hG hC hM hw hl hkk
    · refine lv_tableIn (tgt := 696) hx hb d_law_33 (by decide) (by decide) (show _ = some 663 from rfl) (by decide) ?_
      exact lc_14 hc hX hbl hbA hL (by omega) (by omega) (by omega) pc lf lw cn fr to hv dy an af ln sz ce tr ft hG hC hM hw hl hkk
    · refine lv_tableIn (tgt := 759) hx hb d_law_33 (by decide) (by decide) (show _ = some 726 from rfl) (by decide) ?_
      exact lc_15 hc hX hbl hbA hL (by omega) (by omega) (by omega) pc lf lw cn fr to hv dy an af ln sz ce tr ft hG hC hM hw hl hkk
    · refine lv_tableIn (tgt := 846) hx hb d_law_33 (by decide) (by decide) (show _ = some 813 from rfl) (by decide) ?_
      exact lc_16 hc hX hbl hbA hL (by omega) (by omega) (by omega) pc lf lw cn fr to hv dy an af ln sz ce tr ft hG hC hM hw hl hkk
    · refine lv_tableIn (tgt := 889) hx hb d_law_33 (by decide) (by decide) (show _ = some 856 from rfl) (by decide) ?_
      exact lc_17 hc hX hbl hbA hL (by omega) (by omega) (by omega) pc lf lw cn fr to hv dy an af ln sz ce tr ft hG hC hM hw hl hkk
    · refine lv_tableIn (tgt := 952) hx hb d_law_33 (by decide) (by decide) (show _ = some 919 from rfl) (by decide) ?_
      exact lc_18 hc hX hbl hbA hL (by omega) (by omega) (by omega) pc lf lw cn fr to hv dy an af ln sz ce tr ft hG hC hM hw hl hkk
    · refine lv_tableIn (tgt := 995) hx hb d_law_33 (by decide) (by decide) (show _ = some 962 from rfl) (by decide) ?_
      exact lc_19 hc hX hbl hbA hL (by omega) (by omega) (by omega) pc lf lw cn fr to hv dy an af ln sz ce tr ft hG hC hM hw hl hkk
    · refine lv_tableIn (tgt := 1018) hx hb d_law_33 (by decide) (by decide) (show _ = some 985 from rfl) (by decide) ?_
      exact lc_20 hc hX hbl hbA hL (by omega) (by omega) (by omega) pc lf lw cn fr to hv dy an af ln sz ce tr ft hG hC hM hw hl hkk
    · refine lv_tableIn (tgt := 1061) hx hb d_law_33 (by decide) (by decide) (show _ = some 1028 from rfl) (by decide) ?_
      exact lc_21 hc hX hbl hbA hL (by omega) (by omega) (by omega) pc lf lw cn fr to hv dy an af ln sz ce tr ft hG hC hM hw hl hkk
    · refine lv_tableIn (tgt := 1105) hx hb d_law_33 (by decide) (by decide) (show _ = some 1072 from rfl) (by decide) ?_
      exact lc_22 hc hX hbl hbA hL (by omega) (by omega) (by omega) pc lf lw cn fr to hv dy an af ln sz ce tr ft hG hC hM hw hl hkk
    · refine lv_tableIn (tgt := 1168) hx hb d_law_33 (by decide) (by decide) (show _ = some 1135 from rfl) (by decide) ?_
      exact lc_23 hc hX hbl hbA hL (by omega) (by omega) (by omega) pc lf lw cn fr to hv dy an af ln sz ce tr ft hG hC hM hw hl hkk
    · refine lv_tableIn (tgt := 1191) hx hb d_law_33 (by decide) (by decide) (show _ = some 1158 from rfl) (by decide) ?_
      exact lc_24 hc hX hbl hbA hL (by omega) (by omega) (by omega) pc lf lw cn fr to hv dy an af ln sz ce tr ft hG hC hM hw hl hkk
    · refine lv_tableIn (tgt := 1214) hx hb d_law_33 (by decide) (by decide) (show _ = some 1181 from rfl) (by decide) ?_
      exact lc_25 hc hX hbl hbA hL (by omega) (by omega) (by omega) pc lf lw cn fr to hv dy an af ln sz ce tr ft hG hC hM hw hl hkk
    · refine lv_tableIn (tgt := 1247) hx hb d_law_33 (by decide) (by decide) (show _ = some 1214 from rfl) (by decide) ?_
      exact lc_26 hc hX hbl hbA hL (by omega) (by omega) (by omega) pc lf lw cn fr to hv dy an af ln sz ce tr ft hG hC hM hw hl hkk
    · refine lv_tableIn (tgt := 1260) hx hb d_law_33 (by decide) (by decide) (show _ = some 1227 from rfl) (by decide) ?_
      exact lc_27 hc hX hbl hbA hL (by omega) (by omega) (by omega) pc lf lw cn fr to hv dy an af ln sz ce tr ft hG hC hM hw hl hkk
    · refine lv_tableIn (tgt := 1273) hx hb d_law_33 (by decide) (by decide) (show _ = some 1240 from rfl) (by decide) ?_
      exact lc_28 hc hX hbl hbA hL (by omega) (by omega) (by omega) pc lf lw cn fr to hv dy an af ln sz ce tr ft hG hC hM hw hl hkk
    · refine lv_tableOut (tgt := 1296) hx hb d_law_33 (Or.inr (by rw [nI_tI (by omega)]; omega)) (by decide) ?_
      exact W.widen (by omega) (by omega) (hkk g F _ lw _ _ tr ft H locs ls hG hC hM hw hl)
