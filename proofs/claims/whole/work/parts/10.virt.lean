/-! calls of the persons' methods: which body it is, by the kind; super calls -/
section VT
variable {p : Program} {l : Launch} {e : Env} {R : Room} {s : State} {m : MethodId} {args : Array Value} {below : List Frame} {meth : Method} {c : Code} {H : Heap} {locs : List Loc} {cells slots : Nat} {Q : State → Prop}
variable {cc : ByteArray} {pc : Nat} {ls : Array Slot} {lv : List (Nat × Value)} {rest st : List Value} {D : va_G} {A : Nat → Prop} {H0 : Heap} {nL : Nat} {own : String} {g : wG} {F : wF}
variable {x y : MethodName} {b : ByteArray} {n k idx : Nat} {ret : Option FieldType} {rm : Room} {B : State → Prop} {Qc : Array Value → State → Outcome → State → Prop} {mc ms : Nat} {free : Addr → Prop} {As : List Value} {a : Nat} {C owner : String} {d : Nat} {v : Value} {post : Option Value → wG → wF → Prop}
def LkU (own : String) (idx : Nat) (C owner : String) (x y : MethodName) (b : ByteArray) (n : Nat) (ret : Option FieldType) (k : Nat) : Prop :=
  (Cond.code y b n ret ∈ gws ∧ Cond.methodLink own idx x ∈ gws ∧ Cond.sameMethod x.cls owner x.name x.desc ∈ gws ∧ Cond.instanceMethod ⟨owner, x.name, x.desc⟩ ∈ gws ∧ Cond.selects C x y ∈ gws ∧ Cond.instanceMethod y ∈ gws ∧ Cond.initialized y.cls ∈ gws) ∧
  (∃ b0 m0 r0, Cond.code ⟨owner, x.name, x.desc⟩ b0 m0 r0 ∈ gws) ∧ owner ≠ "java/lang/invoke/MethodHandle" ∧ owner ≠ "java/lang/invoke/VarHandle" ∧ (parseMethodDescriptor x.desc).map (fun d => d.parameters.length) = some k
def LkP (own : String) (idx : Nat) (y : MethodName) (b : ByteArray) (n : Nat) (ret : Option FieldType) (k : Nat) : Prop :=
  (Cond.code y b n ret ∈ gws ∧ Cond.methodLink own idx y ∈ gws ∧ Cond.sameMethod y.cls y.cls y.name y.desc ∈ gws ∧ Cond.superclass own y.cls ∈ gws ∧ Cond.instanceMethod y ∈ gws ∧ Cond.initialized y.cls ∈ gws) ∧ y.name ≠ "<init>" ∧ (parseMethodDescriptor y.desc).map (fun d => d.parameters.length) = some k
theorem gd {w : Cond} (h : w ∈ gws) : w ∈ gws ∧ ((w.onTables && w.keeps) = true ∨ ∃ ty, w = .arrayClass ty) := ⟨h, good_of_word (List.mem_filter.mp h).2⟩
theorem runU (hc : CallFix p m c cc nL s args gws own) (lk : LkU own idx C owner x y b n ret k) (hM : Met l y (.code y b n ret :: gws) rm (va_Pc (.ref a :: As) B) Qc mc ms free) (hR : rm.cells = mc ∧ rm.slots = ms ∧ rm.frames + 1 ≤ R.frames ∧ 8 + (n + 11) + rm.locals ≤ R.locals)
    (hB : FrameBlind (va_Pc (.ref a :: As) B)) (hrecv : ∃ cellB : Cell, H[a]? = some cellB ∧ cellB.vm.isStatics = false ∧ s.vm.findClass C = some cellB.cls) (hpre : ∀ U : State, U.heap = H → s.WarmedH U.vm → B U) (hn : As.length = k) (hl : lv_has ls nL lv) (hst : st = As.reverse ++ .ref a :: rest) (hroom : (rest.map fun v => v.category).sum ≤ 8)
    (hdg : decode cc pc = .ok (.invokevirtual idx, 3)) (hf : cells + mc ≤ R.cells ∧ slots + ms ≤ R.slots) : va_Run p l e R s m args below meth c H locs cells slots mc ms (F0 m pc ls st) rest (Qc (Value.ref a :: As).toArray) free := by
  obtain ⟨⟨h1, h2, h3, h4, h5, h6, h7⟩, ⟨b0, m0, r0, h8⟩, h9⟩ := lk
  have hts := hc.2.2.2.2
  have hG : GoodIn gws (va_wsO own idx C owner x y (.code y b n ret :: gws)) := by
    intro w hw
    unfold va_wsO at hw
    rcases List.mem_append.mp hw with h | h
    · simp only [List.mem_cons, List.not_mem_nil, or_false] at h
      rcases h with rfl | rfl | rfl | rfl | rfl | rfl
      · exact gd h2
      · exact gd h3
      · exact gd h4
      · exact gd h5
      · exact gd h6
      · exact gd h7
    · exact g_into (fun _ h => h) h1 w h
  exact va_runU (C := C) (owner := owner) (x := x) hc hM (va_cwO k hts hG rfl hR.1 hR.2.1 h8 h9 hR.2.2) ⟨hB, hrecv, fun U hU hW => ⟨rfl, hpre U hU hW⟩⟩ rfl hn hl.1 hst (lv_room hroom) hdg hf
theorem runP (hc : CallFix p m c cc nL s args gws own) {cC : ClassId} (hat : ClassAt s C cC) (lk : LkP own idx y b n ret k) (hM : Met l y (.code y b n ret :: gws) rm (va_Pc (.ref a :: As) B) Qc mc ms free) (hR : rm.cells = mc ∧ rm.slots = ms ∧ rm.frames + 1 ≤ R.frames ∧ 8 + (n + 11) + rm.locals ≤ R.locals)
    (hB : FrameBlind (va_Pc (.ref a :: As) B)) (hrecv : ∃ cellB : Cell, H[a]? = some cellB ∧ cellB.vm.isStatics = false ∧ s.vm.findClass C = some cellB.cls) (hpre : ∀ U : State, U.heap = H → s.WarmedH U.vm → B U) (hn : As.length = k) (hl : lv_has ls nL lv) (hst : st = As.reverse ++ .ref a :: rest) (hroom : (rest.map fun v => v.category).sum ≤ 8)
    (hdg : decode cc pc = .ok (.invokespecial idx, 3)) (hf : cells + mc ≤ R.cells ∧ slots + ms ≤ R.slots) : va_Run p l e R s m args below meth c H locs cells slots mc ms (F0 m pc ls st) rest (Qc (Value.ref a :: As).toArray) free := by
  obtain ⟨⟨h1, h2, h3, h4, h5, h6⟩, h7⟩ := lk
  have hts := hc.2.2.2.2
  have hG : GoodIn gws (va_wsSU own idx y (.code y b n ret :: gws)) := by
    intro w hw
    unfold va_wsSU at hw
    rcases List.mem_append.mp hw with h | h
    · simp only [List.mem_cons, List.not_mem_nil, or_false] at h
      rcases h with rfl | rfl | rfl | rfl | rfl
      · exact gd h2
      · exact gd h3
      · exact gd h4
      · exact gd h5
      · exact gd h6
    · exact g_into (fun _ h => h) h1 w h
  exact va_runSU hat hc hM (va_cwSU k hts hG rfl hR.1 hR.2.1 h7 hR.2.2) ⟨hB, hrecv, fun U hU hW => ⟨rfl, hpre U hU hW⟩⟩ rfl hn hl.1 hst (lv_room hroom) hdg hf
theorem kRU (hc : CallFix p m c cc nL s args gws own) (hw : Wd D g F A H0 H locs s) (lk : LkU own idx C owner x y b n ret k) {h : Nat} (hM : CR l y b n ret d D g F (.ref (wad g h) :: As) v) (hrecv : ∃ cellB : Cell, H[wad g h]? = some cellB ∧ cellB.vm.isStatics = false ∧ s.vm.findClass C = some cellB.cls)
    (hR : d + 1 ≤ R.frames ∧ 8 + (n + 11) + 34 * d ≤ R.locals) (hf : cells ≤ R.cells ∧ slots ≤ R.slots) (hn : As.length = k) (hl : lv_has ls nL lv) (hst : st = As.reverse ++ .ref (wad g h) :: rest) (hroom : (rest.map fun v => v.category).sum ≤ 8) (hdg : decode cc pc = .ok (.invokevirtual idx, 3))
    (kk : W p l e R s m args below meth c H locs cells slots Q (F0 m (pc + 3) ls (v :: rest))) : W p l e R s m args below meth c H locs cells slots Q (F0 m pc ls st) :=
  W.callV (va_Run.run (runU hc lk (hM H.size) ⟨rfl, rfl, hR⟩ (Pz.blind D g F _ _) hrecv (fun U hU hW => hw.pre hU hW) hn hl hst hroom hdg hf)) kk
theorem kRP (hc : CallFix p m c cc nL s args gws own) (hw : Wd D g F A H0 H locs s) {cC : ClassId} (hat : ClassAt s C cC) (lk : LkP own idx y b n ret k) {h : Nat} (hM : CR l y b n ret d D g F (.ref (wad g h) :: As) v) (hrecv : ∃ cellB : Cell, H[wad g h]? = some cellB ∧ cellB.vm.isStatics = false ∧ s.vm.findClass C = some cellB.cls)
    (hR : d + 1 ≤ R.frames ∧ 8 + (n + 11) + 34 * d ≤ R.locals) (hf : cells ≤ R.cells ∧ slots ≤ R.slots) (hn : As.length = k) (hl : lv_has ls nL lv) (hst : st = As.reverse ++ .ref (wad g h) :: rest) (hroom : (rest.map fun v => v.category).sum ≤ 8) (hdg : decode cc pc = .ok (.invokespecial idx, 3))
    (kk : W p l e R s m args below meth c H locs cells slots Q (F0 m (pc + 3) ls (v :: rest))) : W p l e R s m args below meth c H locs cells slots Q (F0 m pc ls st) :=
  W.callV (va_Run.run (runP hc hat lk (hM H.size) ⟨rfl, rfl, hR⟩ (Pz.blind D g F _ _) hrecv (fun U hU hW => hw.pre hU hW) hn hl hst hroom hdg hf)) kk
theorem kWU (hc : CallFix p m c cc nL s args gws own) (hw : Wd D g F A H0 H locs s) (lk : LkU own idx C owner x y b n ret k) {h : Nat} (hM : CW l y b n ret d mc ms D g F (.ref (wad g h) :: As) post) (hrecv : ∃ cellB : Cell, H[wad g h]? = some cellB ∧ cellB.vm.isStatics = false ∧ s.vm.findClass C = some cellB.cls)
    (hR : d + 1 ≤ R.frames ∧ 8 + (n + 11) + 34 * d ≤ R.locals) (hf : cells + mc ≤ R.cells ∧ slots + ms ≤ R.slots) (hn : As.length = k) (hl : lv_has ls nL lv) (hst : st = As.reverse ++ .ref (wad g h) :: rest) (hroom : (rest.map fun v => v.category).sum ≤ 8) (hdg : decode cc pc = .ok (.invokevirtual idx, 3))
    (kk : ∀ (v : Option Value) (g' : wG) (u : wF) (H1 : Heap) (locs1 : List Loc), post v g' u → Wd D g' u A H0 H1 locs1 s → W p l e R s m args below meth c H1 locs1 (cells + mc) (slots + ms) Q (F0 m (pc + 3) ls (v.toList ++ rest))) : W p l e R s m args below meth c H locs cells slots Q (F0 m pc ls st) :=
  finW (runU hc lk (hM H.size) ⟨rfl, rfl, hR⟩ (Pz.blind D g F _ _) hrecv (fun U hU hW => hw.pre hU hW) hn hl hst hroom hdg hf) hw kk
theorem kWP (hc : CallFix p m c cc nL s args gws own) (hw : Wd D g F A H0 H locs s) {cC : ClassId} (hat : ClassAt s C cC) (lk : LkP own idx y b n ret k) {h : Nat} (hM : CW l y b n ret d mc ms D g F (.ref (wad g h) :: As) post) (hrecv : ∃ cellB : Cell, H[wad g h]? = some cellB ∧ cellB.vm.isStatics = false ∧ s.vm.findClass C = some cellB.cls)
    (hR : d + 1 ≤ R.frames ∧ 8 + (n + 11) + 34 * d ≤ R.locals) (hf : cells + mc ≤ R.cells ∧ slots + ms ≤ R.slots) (hn : As.length = k) (hl : lv_has ls nL lv) (hst : st = As.reverse ++ .ref (wad g h) :: rest) (hroom : (rest.map fun v => v.category).sum ≤ 8) (hdg : decode cc pc = .ok (.invokespecial idx, 3))
    (kk : ∀ (v : Option Value) (g' : wG) (u : wF) (H1 : Heap) (locs1 : List Loc), post v g' u → Wd D g' u A H0 H1 locs1 s → W p l e R s m args below meth c H1 locs1 (cells + mc) (slots + ms) Q (F0 m (pc + 3) ls (v.toList ++ rest))) : W p l e R s m args below meth c H locs cells slots Q (F0 m pc ls st) :=
  finW (runP hc hat lk (hM H.size) ⟨rfl, rfl, hR⟩ (Pz.blind D g F _ _) hrecv (fun U hU hW => hw.pre hU hW) hn hl hst hroom hdg hf) hw kk
theorem cat_WR (hw : Wd D g F A H0 H locs s) : ClassAt s R_WR (D.1 7) := (hw.1.1 7 _ rfl).2
theorem cat_MI (hw : Wd D g F A H0 H locs s) : ClassAt s R_MI (D.1 8) := (hw.1.1 8 _ rfl).2
theorem cat_LA (hw : Wd D g F A H0 H locs s) : ClassAt s R_LA (D.1 9) := (hw.1.1 9 _ rfl).2
end VT
theorem lu_AP_100_WR : LkU "AnswerPost" 100 R_WR R_WR y_WR_kind y_WR_kind b_WR_kind 1 (Option.some Jvm.ClassFile.FieldType.int) 0 := ⟨⟨g_329, g_319, g_322, g_320, g_321, g_320, g_10⟩, ⟨_, _, _, g_329⟩, by decide +kernel, by decide +kernel, by decide +kernel⟩
theorem lu_AP_100_MI : LkU "AnswerPost" 100 R_MI R_WR y_WR_kind y_MI_kind b_MI_kind 1 (Option.some Jvm.ClassFile.FieldType.int) 0 := ⟨⟨g_328, g_319, g_322, g_320, g_326, g_327, g_11⟩, ⟨_, _, _, g_329⟩, by decide +kernel, by decide +kernel, by decide +kernel⟩
theorem lu_AP_100_LA : LkU "AnswerPost" 100 R_LA R_WR y_WR_kind y_LA_kind b_LA_kind 1 (Option.some Jvm.ClassFile.FieldType.int) 0 := ⟨⟨g_325, g_319, g_322, g_320, g_323, g_324, g_12⟩, ⟨_, _, _, g_329⟩, by decide +kernel, by decide +kernel, by decide +kernel⟩
theorem lu_AP_107_WR : LkU "AnswerPost" 107 R_WR R_WR y_WR_shows y_WR_shows b_WR_shows 2 (Option.some Jvm.ClassFile.FieldType.int) 1 := ⟨⟨g_345, g_334, g_337, g_335, g_336, g_335, g_10⟩, ⟨_, _, _, g_345⟩, by decide +kernel, by decide +kernel, by decide +kernel⟩
theorem lu_AP_107_MI : LkU "AnswerPost" 107 R_MI R_WR y_WR_shows y_MI_shows b_MI_shows 2 (Option.some Jvm.ClassFile.FieldType.int) 1 := ⟨⟨g_343, g_334, g_337, g_335, g_344, g_342, g_11⟩, ⟨_, _, _, g_345⟩, by decide +kernel, by decide +kernel, by decide +kernel⟩
theorem lu_AP_107_LA : LkU "AnswerPost" 107 R_LA R_WR y_WR_shows y_LA_shows b_LA_shows 2 (Option.some Jvm.ClassFile.FieldType.int) 1 := ⟨⟨g_340, g_334, g_337, g_335, g_338, g_339, g_12⟩, ⟨_, _, _, g_345⟩, by decide +kernel, by decide +kernel, by decide +kernel⟩
theorem lu_LE_46_WR : LkU "AnswerPost$Letters" 46 R_WR R_WR y_WR_shows y_WR_shows b_WR_shows 2 (Option.some Jvm.ClassFile.FieldType.int) 1 := ⟨⟨g_345, g_365, g_337, g_335, g_336, g_335, g_10⟩, ⟨_, _, _, g_345⟩, by decide +kernel, by decide +kernel, by decide +kernel⟩
theorem lu_LE_46_MI : LkU "AnswerPost$Letters" 46 R_MI R_WR y_WR_shows y_MI_shows b_MI_shows 2 (Option.some Jvm.ClassFile.FieldType.int) 1 := ⟨⟨g_343, g_365, g_337, g_335, g_344, g_342, g_11⟩, ⟨_, _, _, g_345⟩, by decide +kernel, by decide +kernel, by decide +kernel⟩
theorem lu_LE_46_LA : LkU "AnswerPost$Letters" 46 R_LA R_WR y_WR_shows y_LA_shows b_LA_shows 2 (Option.some Jvm.ClassFile.FieldType.int) 1 := ⟨⟨g_340, g_365, g_337, g_335, g_338, g_339, g_12⟩, ⟨_, _, _, g_345⟩, by decide +kernel, by decide +kernel, by decide +kernel⟩
theorem lu_TU_61_WR : LkU "AnswerPost$Turns" 61 R_WR R_WR y_WR_shows y_WR_shows b_WR_shows 2 (Option.some Jvm.ClassFile.FieldType.int) 1 := ⟨⟨g_345, g_466, g_337, g_335, g_336, g_335, g_10⟩, ⟨_, _, _, g_345⟩, by decide +kernel, by decide +kernel, by decide +kernel⟩
theorem lu_TU_61_MI : LkU "AnswerPost$Turns" 61 R_MI R_WR y_WR_shows y_MI_shows b_MI_shows 2 (Option.some Jvm.ClassFile.FieldType.int) 1 := ⟨⟨g_343, g_466, g_337, g_335, g_344, g_342, g_11⟩, ⟨_, _, _, g_345⟩, by decide +kernel, by decide +kernel, by decide +kernel⟩
theorem lu_TU_61_LA : LkU "AnswerPost$Turns" 61 R_LA R_WR y_WR_shows y_LA_shows b_LA_shows 2 (Option.some Jvm.ClassFile.FieldType.int) 1 := ⟨⟨g_340, g_466, g_337, g_335, g_338, g_339, g_12⟩, ⟨_, _, _, g_345⟩, by decide +kernel, by decide +kernel, by decide +kernel⟩
theorem lu_PA_26_WR : LkU "AnswerPost$Parts" 26 R_WR R_WR y_WR_shows y_WR_shows b_WR_shows 2 (Option.some Jvm.ClassFile.FieldType.int) 1 := ⟨⟨g_345, g_493, g_337, g_335, g_336, g_335, g_10⟩, ⟨_, _, _, g_345⟩, by decide +kernel, by decide +kernel, by decide +kernel⟩
theorem lu_PA_26_MI : LkU "AnswerPost$Parts" 26 R_MI R_WR y_WR_shows y_MI_shows b_MI_shows 2 (Option.some Jvm.ClassFile.FieldType.int) 1 := ⟨⟨g_343, g_493, g_337, g_335, g_344, g_342, g_11⟩, ⟨_, _, _, g_345⟩, by decide +kernel, by decide +kernel, by decide +kernel⟩
theorem lu_PA_26_LA : LkU "AnswerPost$Parts" 26 R_LA R_WR y_WR_shows y_LA_shows b_LA_shows 2 (Option.some Jvm.ClassFile.FieldType.int) 1 := ⟨⟨g_340, g_493, g_337, g_335, g_338, g_339, g_12⟩, ⟨_, _, _, g_345⟩, by decide +kernel, by decide +kernel, by decide +kernel⟩
theorem lu_AP_242_WR : LkU "AnswerPost" 242 R_WR R_WR y_WR_telling y_WR_telling b_WR_telling 2 (Option.some Jvm.ClassFile.FieldType.int) 1 := ⟨⟨g_574, g_550, g_553, g_551, g_552, g_551, g_10⟩, ⟨_, _, _, g_574⟩, by decide +kernel, by decide +kernel, by decide +kernel⟩
theorem lu_AP_242_MI : LkU "AnswerPost" 242 R_MI R_WR y_WR_telling y_MI_telling b_MI_telling 2 (Option.some Jvm.ClassFile.FieldType.int) 1 := ⟨⟨g_563, g_550, g_553, g_551, g_573, g_562, g_11⟩, ⟨_, _, _, g_574⟩, by decide +kernel, by decide +kernel, by decide +kernel⟩
theorem lu_AP_242_LA : LkU "AnswerPost" 242 R_LA R_WR y_WR_telling y_LA_telling b_LA_telling 3 (Option.some Jvm.ClassFile.FieldType.int) 1 := ⟨⟨g_556, g_550, g_553, g_551, g_554, g_555, g_12⟩, ⟨_, _, _, g_574⟩, by decide +kernel, by decide +kernel, by decide +kernel⟩
theorem lu_AP_246_WR : LkU "AnswerPost" 246 R_WR R_WR y_WR_greeting y_WR_greeting b_WR_greeting 2 (Option.some Jvm.ClassFile.FieldType.int) 1 := ⟨⟨g_588, g_580, g_583, g_581, g_582, g_581, g_10⟩, ⟨_, _, _, g_588⟩, by decide +kernel, by decide +kernel, by decide +kernel⟩
theorem lu_AP_246_MI : LkU "AnswerPost" 246 R_MI R_WR y_WR_greeting y_WR_greeting b_WR_greeting 2 (Option.some Jvm.ClassFile.FieldType.int) 1 := ⟨⟨g_588, g_580, g_583, g_581, g_587, g_581, g_10⟩, ⟨_, _, _, g_588⟩, by decide +kernel, by decide +kernel, by decide +kernel⟩
theorem lu_AP_246_LA : LkU "AnswerPost" 246 R_LA R_WR y_WR_greeting y_LA_greeting b_LA_greeting 2 (Option.some Jvm.ClassFile.FieldType.int) 1 := ⟨⟨g_586, g_580, g_583, g_581, g_584, g_585, g_12⟩, ⟨_, _, _, g_588⟩, by decide +kernel, by decide +kernel, by decide +kernel⟩
theorem lu_WR_18_WR : LkU "AnswerPost$Writer" 18 R_WR R_WR y_WR_writersTelling y_WR_writersTelling b_WR_writersTelling 2 (Option.some Jvm.ClassFile.FieldType.int) 1 := ⟨⟨g_571, g_575, g_926, g_570, g_929, g_570, g_10⟩, ⟨_, _, _, g_571⟩, by decide +kernel, by decide +kernel, by decide +kernel⟩
theorem lu_WR_18_MI : LkU "AnswerPost$Writer" 18 R_MI R_WR y_WR_writersTelling y_WR_writersTelling b_WR_writersTelling 2 (Option.some Jvm.ClassFile.FieldType.int) 1 := ⟨⟨g_571, g_575, g_926, g_570, g_928, g_570, g_10⟩, ⟨_, _, _, g_571⟩, by decide +kernel, by decide +kernel, by decide +kernel⟩
theorem lu_WR_18_LA : LkU "AnswerPost$Writer" 18 R_LA R_WR y_WR_writersTelling y_WR_writersTelling b_WR_writersTelling 2 (Option.some Jvm.ClassFile.FieldType.int) 1 := ⟨⟨g_571, g_575, g_926, g_570, g_927, g_570, g_10⟩, ⟨_, _, _, g_571⟩, by decide +kernel, by decide +kernel, by decide +kernel⟩
theorem lu_LA_23_LA : LkU "AnswerPost$Lawyer" 23 R_LA R_WR ⟨"AnswerPost$Lawyer", "writersTelling", "(LAnswerPost$Trail;)I"⟩ y_WR_writersTelling b_WR_writersTelling 2 (Option.some Jvm.ClassFile.FieldType.int) 1 := ⟨⟨g_571, g_566, g_567, g_570, g_569, g_570, g_10⟩, ⟨_, _, _, g_571⟩, by decide +kernel, by decide +kernel, by decide +kernel⟩
theorem lp_LA_9 : LkP "AnswerPost$Lawyer" 9 y_MI_shows b_MI_shows 2 (Option.some Jvm.ClassFile.FieldType.int) 1 := ⟨⟨g_343, g_341, g_924, g_297, g_342, g_11⟩, by decide +kernel, by decide +kernel⟩
theorem lp_LA_19 : LkP "AnswerPost$Lawyer" 19 y_MI_telling b_MI_telling 2 (Option.some Jvm.ClassFile.FieldType.int) 1 := ⟨⟨g_563, g_561, g_925, g_297, g_562, g_11⟩, by decide +kernel, by decide +kernel⟩
theorem lp_MI_15 : LkP "AnswerPost$Miser" 15 y_WR_telling b_WR_telling 2 (Option.some Jvm.ClassFile.FieldType.int) 1 := ⟨⟨g_574, g_565, g_553, g_288, g_551, g_10⟩, by decide +kernel, by decide +kernel⟩
set_option maxHeartbeats 4000000 in
theorem c_WR_kind (l : Launch) (D : va_G) (g : wG) (F : wF) (j : Nat) (hj : j < wm g) (h2 : wK g j ≤ 2) : CR l y_WR_kind b_WR_kind 1 (Option.some Jvm.ClassFile.FieldType.int) 0 D g F [.ref (wad g (79 + j))] (.int (nI 0)) := by
  refine CR.start rfl (Nat.le_of_ble_eq_true rfl) ?_
  intro p e s m args below meth c A ls hc hr hlocks hw hl
  have hl : lv_has ls 1 [(0, .ref (wad g (79 + j)))] := hl
  have hx := hc.1
  have hb := hc.2.1
  refine lv_iconst (v := nI 0) hx hb d_WR_kind_0 (by decide) ?_
  exact R_i hc hr hlocks (rfl) d_WR_kind_1
set_option maxHeartbeats 4000000 in
theorem c_MI_kind (l : Launch) (D : va_G) (g : wG) (F : wF) (j : Nat) (hj : j < wm g) (h2 : wK g j ≤ 2) : CR l y_MI_kind b_MI_kind 1 (Option.some Jvm.ClassFile.FieldType.int) 0 D g F [.ref (wad g (79 + j))] (.int (nI 1)) := by
  refine CR.start rfl (Nat.le_of_ble_eq_true rfl) ?_
  intro p e s m args below meth c A ls hc hr hlocks hw hl
  have hl : lv_has ls 1 [(0, .ref (wad g (79 + j)))] := hl
  have hx := hc.1
  have hb := hc.2.1
  refine lv_iconst (v := nI 1) hx hb d_MI_kind_0 (by decide) ?_
  exact R_i hc hr hlocks (rfl) d_MI_kind_1
set_option maxHeartbeats 4000000 in
theorem c_LA_kind (l : Launch) (D : va_G) (g : wG) (F : wF) (j : Nat) (hj : j < wm g) (h2 : wK g j ≤ 2) : CR l y_LA_kind b_LA_kind 1 (Option.some Jvm.ClassFile.FieldType.int) 0 D g F [.ref (wad g (79 + j))] (.int (nI 2)) := by
  refine CR.start rfl (Nat.le_of_ble_eq_true rfl) ?_
  intro p e s m args below meth c A ls hc hr hlocks hw hl
  have hl : lv_has ls 1 [(0, .ref (wad g (79 + j)))] := hl
  have hx := hc.1
  have hb := hc.2.1
  refine lv_iconst (v := nI 2) hx hb d_LA_kind_0 (by decide) ?_
  exact R_i hc hr hlocks (rfl) d_LA_kind_1
set_option maxHeartbeats 4000000 in
theorem c_WR_shows (l : Launch) (D : va_G) (g : wG) (F : wF) (j : Nat) (hj : j < wm g) (h2 : wK g j ≤ 2) (w : Nat) : CR l y_WR_shows b_WR_shows 2 (Option.some Jvm.ClassFile.FieldType.int) 0 D g F [.ref (wad g (79 + j)), .int (nI w)] (.int (nI w)) := by
  refine CR.start rfl (Nat.le_of_ble_eq_true rfl) ?_
  intro p e s m args below meth c A ls hc hr hlocks hw hl
  have hl : lv_has ls 2 [(0, .ref (wad g (79 + j))), (1, .int (nI w))] := hl
  have hx := hc.1
  have hb := hc.2.1
  refine lv_iload_n hx hb d_WR_shows_0 rfl (lv_at hl 1 rfl) ?_
  exact R_i hc hr hlocks (rfl) d_WR_shows_1
set_option maxHeartbeats 4000000 in
theorem c_MI_shows (l : Launch) (D : va_G) (g : wG) (F : wF) (j : Nat) (hj : j < wm g) (h2 : wK g j ≤ 2) (w : Nat) : CR l y_MI_shows b_MI_shows 2 (Option.some Jvm.ClassFile.FieldType.int) 0 D g F [.ref (wad g (79 + j)), .int (nI w)] (.int (nI (w + 3))) := by
  refine CR.start rfl (Nat.le_of_ble_eq_true rfl) ?_
  intro p e s m args below meth c A ls hc hr hlocks hw hl
  have hl : lv_has ls 2 [(0, .ref (wad g (79 + j))), (1, .int (nI w))] := hl
  have hx := hc.1
  have hb := hc.2.1
  refine lv_iload_n hx hb d_MI_shows_0 rfl (lv_at hl 1 rfl) ?_
  refine lv_iconst (v := nI 3) hx hb d_MI_shows_1 (by decide) ?_
  refine q_iadd hc d_MI_shows_2 ?_
  exact R_i hc hr hlocks (rfl) d_MI_shows_3
set_option maxHeartbeats 4000000 in
theorem c_LA_shows (l : Launch) (D : va_G) (g : wG) (F : wF) (j : Nat) (hj : j < wm g) (h2 : wK g j ≤ 2) (hk0 : wK g j = 2) (w : Nat) (hw9 : w < 2 ^ 31) : CR l y_LA_shows b_LA_shows 2 (Option.some Jvm.ClassFile.FieldType.int) 1 D g F [.ref (wad g (79 + j)), .int (nI w)] (.int (nI (w + 3 + w / 2))) := by
  refine CR.start rfl (Nat.le_of_ble_eq_true rfl) ?_
  intro p e s m args below meth c A ls hc hr hlocks hw hl
  have hl : lv_has ls 2 [(0, .ref (wad g (79 + j))), (1, .int (nI w))] := hl
  have hx := hc.1
  have hb := hc.2.1
  refine lv_aload_n hx hb d_LA_shows_0 rfl (lv_at hl 0 rfl) ?_
  refine lv_iload_n hx hb d_LA_shows_1 rfl (lv_at hl 1 rfl) ?_
  refine kRP hc hw (cat_LA hw) lp_LA_9 (h := 79 + j) (As := [.int (nI w)]) (rest := []) (c_MI_shows l D g _ j hj h2 w) (rc_LA hw hj hk0) ⟨Nat.le_of_ble_eq_true rfl, Nat.le_of_ble_eq_true rfl⟩ ⟨Nat.le_refl _, Nat.le_refl _⟩ rfl hl rfl (Nat.le_of_ble_eq_true rfl) d_LA_shows_2 ?_
  refine lv_iload_n hx hb d_LA_shows_5 rfl (lv_at hl 1 rfl) ?_
  refine lv_iconst (v := nI 2) hx hb d_LA_shows_6 (by decide) ?_
  refine q_idiv hc (by omega) (by decide) (by decide) d_LA_shows_7 ?_
  refine q_iadd hc d_LA_shows_8 ?_
  exact R_i hc hr hlocks (rfl) d_LA_shows_9
set_option maxHeartbeats 4000000 in
theorem c_WR_writersTelling (l : Launch) (D : va_G) (g : wG) (F : wF) (j : Nat) (hj : j < wm g) (h2 : wK g j ≤ 2) (lf : Nat) (hlf : F (79 + j) 1 = nI lf) (tr : Int32) (h1 : F 57 0 = tr) : CW l y_WR_writersTelling b_WR_writersTelling 2 (Option.some Jvm.ClassFile.FieldType.int) 1 0 0 D g F [.ref (wad g (79 + j)), .ref (wad g 57)] (fun v g2 u => v = some (.int (nI (lf))) ∧ g = g2 ∧ u = u2 F 57 0 (31 * tr + nI 1)) := by
  refine CW.start rfl (Nat.le_of_ble_eq_true rfl) ?_
  intro p e s m args below meth c A ls hc hr hlocks hw hl
  have hl : lv_has ls 2 [(0, .ref (wad g (79 + j))), (1, .ref (wad g 57))] := hl
  have hx := hc.1
  have hb := hc.2.1
  refine lv_aload_n hx hb d_WR_writersTelling_0 rfl (lv_at hl 1 rfl) ?_
  refine lv_iconst (v := nI 1) hx hb d_WR_writersTelling_1 (by decide) ?_
  refine kWV hc hw lk_WR_22 (h := 57) (As := [.int (nI 1)]) (rest := []) (c_TR_leave l D g _ (nI 1) tr (h1)) (rc_TR hw) ⟨Nat.le_of_ble_eq_true rfl, Nat.le_of_ble_eq_true rfl⟩ ⟨Nat.le_refl _, Nat.le_refl _⟩ rfl hl rfl (Nat.le_of_ble_eq_true rfl) d_WR_writersTelling_2 (fun v_1 g_2 F_3 H locs hp_4 hw => ?_)
  obtain ⟨rfl, rfl, rfl⟩ := hp_4
  refine lv_aload_n hx hb d_WR_writersTelling_5 rfl (lv_at hl 0 rfl) ?_
  refine gf_WR_15 hc hw (k := j) (hj) (h2) d_WR_writersTelling_6 (v := .int (nI lf)) (congrArg Value.int ((u2_h (by omega)).trans hlf)) ?_
  exact W_i hc hw hr hlocks (⟨rfl, rfl, rfl⟩) d_WR_writersTelling_9
set_option maxHeartbeats 4000000 in
theorem c_WR_telling (l : Launch) (D : va_G) (g : wG) (F : wF) (j : Nat) (hj : j < wm g) (h2 : wK g j ≤ 2) (lf : Nat) (hlf : F (79 + j) 1 = nI lf) (tr : Int32) (h1 : F 57 0 = tr) : CW l y_WR_telling b_WR_telling 2 (Option.some Jvm.ClassFile.FieldType.int) 2 0 0 D g F [.ref (wad g (79 + j)), .ref (wad g 57)] (fun v g2 u => v = some (.int (nI (lf))) ∧ g = g2 ∧ u = u2 F 57 0 (31 * tr + nI 1)) := by
  refine CW.start rfl (Nat.le_of_ble_eq_true rfl) ?_
  intro p e s m args below meth c A ls hc hr hlocks hw hl
  have hl : lv_has ls 2 [(0, .ref (wad g (79 + j))), (1, .ref (wad g 57))] := hl
  have hx := hc.1
  have hb := hc.2.1
  refine lv_aload_n hx hb d_WR_telling_0 rfl (lv_at hl 0 rfl) ?_
  refine lv_aload_n hx hb d_WR_telling_1 rfl (lv_at hl 1 rfl) ?_
  rcases (show wK g j = 0 ∨ wK g j = 1 ∨ wK g j = 2 by omega) with hk0 | hk0 | hk0
  · refine kWU hc hw lu_WR_18_WR (h := 79 + j) (As := [.ref (wad g 57)]) (rest := []) (c_WR_writersTelling l D g _ j hj h2 lf hlf tr (h1)) (rc_WR hw hj hk0) ⟨Nat.le_of_ble_eq_true rfl, Nat.le_of_ble_eq_true rfl⟩ ⟨Nat.le_refl _, Nat.le_refl _⟩ rfl hl rfl (Nat.le_of_ble_eq_true rfl) d_WR_telling_2 (fun v_1 g_2 F_3 H locs hp_4 hw => ?_)
    obtain ⟨rfl, rfl, rfl⟩ := hp_4
    exact W_i hc hw hr hlocks (⟨rfl, rfl, rfl⟩) d_WR_telling_5
  · refine kWU hc hw lu_WR_18_MI (h := 79 + j) (As := [.ref (wad g 57)]) (rest := []) (c_WR_writersTelling l D g _ j hj h2 lf hlf tr (h1)) (rc_MI hw hj hk0) ⟨Nat.le_of_ble_eq_true rfl, Nat.le_of_ble_eq_true rfl⟩ ⟨Nat.le_refl _, Nat.le_refl _⟩ rfl hl rfl (Nat.le_of_ble_eq_true rfl) d_WR_telling_2 (fun v_5 g_6 F_7 H locs hp_8 hw => ?_)
    obtain ⟨rfl, rfl, rfl⟩ := hp_8
    exact W_i hc hw hr hlocks (⟨rfl, rfl, rfl⟩) d_WR_telling_5
  · refine kWU hc hw lu_WR_18_LA (h := 79 + j) (As := [.ref (wad g 57)]) (rest := []) (c_WR_writersTelling l D g _ j hj h2 lf hlf tr (h1)) (rc_LA hw hj hk0) ⟨Nat.le_of_ble_eq_true rfl, Nat.le_of_ble_eq_true rfl⟩ ⟨Nat.le_refl _, Nat.le_refl _⟩ rfl hl rfl (Nat.le_of_ble_eq_true rfl) d_WR_telling_2 (fun v_9 g_10 F_11 H locs hp_12 hw => ?_)
    obtain ⟨rfl, rfl, rfl⟩ := hp_12
    exact W_i hc hw hr hlocks (⟨rfl, rfl, rfl⟩) d_WR_telling_5
set_option maxHeartbeats 4000000 in
theorem c_MI_telling (l : Launch) (D : va_G) (g : wG) (F : wF) (j : Nat) (hj : j < wm g) (h2 : wK g j ≤ 2) (K0 : Nat) (hK0 : K0 = 1 ∨ K0 = 2) (hk0 : wK g j = K0) (lf : Nat) (hlf : F (79 + j) 1 = nI lf) (tr : Int32) (h1 : F 57 0 = tr) : CW l y_MI_telling b_MI_telling 2 (Option.some Jvm.ClassFile.FieldType.int) 3 0 0 D g F [.ref (wad g (79 + j)), .ref (wad g 57)] (fun v g2 u => v = some (.int (nI (lf + 100))) ∧ g = g2 ∧ u = u2 (u2 F 57 0 (31 * tr + nI 2)) 57 0 (31 * (31 * tr + nI 2) + nI 1)) := by
  refine CW.start rfl (Nat.le_of_ble_eq_true rfl) ?_
  intro p e s m args below meth c A ls hc hr hlocks hw hl
  have hl : lv_has ls 2 [(0, .ref (wad g (79 + j))), (1, .ref (wad g 57))] := hl
  have hx := hc.1
  have hb := hc.2.1
  refine lv_aload_n hx hb d_MI_telling_0 rfl (lv_at hl 1 rfl) ?_
  refine lv_iconst (v := nI 2) hx hb d_MI_telling_1 (by decide) ?_
  refine kWV hc hw lk_MI_9 (h := 57) (As := [.int (nI 2)]) (rest := []) (c_TR_leave l D g _ (nI 2) tr (h1)) (rc_TR hw) ⟨Nat.le_of_ble_eq_true rfl, Nat.le_of_ble_eq_true rfl⟩ ⟨Nat.le_refl _, Nat.le_refl _⟩ rfl hl rfl (Nat.le_of_ble_eq_true rfl) d_MI_telling_2 (fun v_1 g_2 F_3 H locs hp_4 hw => ?_)
  obtain ⟨rfl, rfl, rfl⟩ := hp_4
  refine lv_aload_n hx hb d_MI_telling_5 rfl (lv_at hl 0 rfl) ?_
  refine lv_aload_n hx hb d_MI_telling_6 rfl (lv_at hl 1 rfl) ?_
  rcases (show K0 = 1 ∨ K0 = 2 by omega) with hq | hq
  · subst hq
    refine kWP hc hw (cat_MI hw) lp_MI_15 (h := 79 + j) (As := [.ref (wad g 57)]) (rest := []) (c_WR_telling l D g _ j hj h2 lf ((u2_h (by omega)).trans hlf) (31 * tr + nI 2) (u2_same _ 57 0 _)) (rc_MI hw hj hk0) ⟨Nat.le_of_ble_eq_true rfl, Nat.le_of_ble_eq_true rfl⟩ ⟨Nat.le_refl _, Nat.le_refl _⟩ rfl hl rfl (Nat.le_of_ble_eq_true rfl) d_MI_telling_7 (fun v_5 g_6 F_7 H locs hp_8 hw => ?_)
    obtain ⟨rfl, rfl, rfl⟩ := hp_8
    refine lv_bipush (v := nI 100) hx hb d_MI_telling_10 (by decide) ?_
    refine q_iadd hc d_MI_telling_12 ?_
    exact W_i hc hw hr hlocks (⟨rfl, rfl, rfl⟩) d_MI_telling_13
  · subst hq
    refine kWP hc hw (cat_LA hw) lp_MI_15 (h := 79 + j) (As := [.ref (wad g 57)]) (rest := []) (c_WR_telling l D g _ j hj h2 lf ((u2_h (by omega)).trans hlf) (31 * tr + nI 2) (u2_same _ 57 0 _)) (rc_LA hw hj hk0) ⟨Nat.le_of_ble_eq_true rfl, Nat.le_of_ble_eq_true rfl⟩ ⟨Nat.le_refl _, Nat.le_refl _⟩ rfl hl rfl (Nat.le_of_ble_eq_true rfl) d_MI_telling_7 (fun v_9 g_10 F_11 H locs hp_12 hw => ?_)
    obtain ⟨rfl, rfl, rfl⟩ := hp_12
    refine lv_bipush (v := nI 100) hx hb d_MI_telling_10 (by decide) ?_
    refine q_iadd hc d_MI_telling_12 ?_
    exact W_i hc hw hr hlocks (⟨rfl, rfl, rfl⟩) d_MI_telling_13
set_option maxHeartbeats 4000000 in
theorem c_LA_telling (l : Launch) (D : va_G) (g : wG) (F : wF) (j : Nat) (hj : j < wm g) (h2 : wK g j ≤ 2) (hk0 : wK g j = 2) (lf : Nat) (hlf : F (79 + j) 1 = nI lf) (tr : Int32) (h1 : F 57 0 = tr) : CW l y_LA_telling b_LA_telling 3 (Option.some Jvm.ClassFile.FieldType.int) 4 0 0 D g F [.ref (wad g (79 + j)), .ref (wad g 57)] (fun v g2 u => v = some (.int (nI (lf + 100 + lf))) ∧ g = g2 ∧ u = u2 (u2 (u2 (u2 F 57 0 (31 * tr + nI 3)) 57 0 (31 * (31 * tr + nI 3) + nI 2)) 57 0 (31 * (31 * (31 * tr + nI 3) + nI 2) + nI 1)) 57 0 (31 * (31 * (31 * (31 * tr + nI 3) + nI 2) + nI 1) + nI 1)) := by
  refine CW.start rfl (Nat.le_of_ble_eq_true rfl) ?_
  intro p e s m args below meth c A ls hc hr hlocks hw hl
  have hl : lv_has ls 3 [(0, .ref (wad g (79 + j))), (1, .ref (wad g 57))] := hl
  have hx := hc.1
  have hb := hc.2.1
  refine lv_aload_n hx hb d_LA_telling_0 rfl (lv_at hl 1 rfl) ?_
  refine lv_iconst (v := nI 3) hx hb d_LA_telling_1 (by decide) ?_
  refine kWV hc hw lk_LA_13 (h := 57) (As := [.int (nI 3)]) (rest := []) (c_TR_leave l D g _ (nI 3) tr (h1)) (rc_TR hw) ⟨Nat.le_of_ble_eq_true rfl, Nat.le_of_ble_eq_true rfl⟩ ⟨Nat.le_refl _, Nat.le_refl _⟩ rfl hl rfl (Nat.le_of_ble_eq_true rfl) d_LA_telling_2 (fun v_1 g_2 F_3 H locs hp_4 hw => ?_)
  obtain ⟨rfl, rfl, rfl⟩ := hp_4
  refine lv_aload_n hx hb d_LA_telling_5 rfl (lv_at hl 0 rfl) ?_
  refine lv_aload_n hx hb d_LA_telling_6 rfl (lv_at hl 1 rfl) ?_
  refine kWP hc hw (cat_LA hw) lp_LA_19 (h := 79 + j) (As := [.ref (wad g 57)]) (rest := []) (c_MI_telling l D g _ j hj h2 2 (by decide) hk0 lf ((u2_h (by omega)).trans hlf) (31 * tr + nI 3) (u2_same _ 57 0 _)) (rc_LA hw hj hk0) ⟨Nat.le_of_ble_eq_true rfl, Nat.le_of_ble_eq_true rfl⟩ ⟨Nat.le_refl _, Nat.le_refl _⟩ rfl hl rfl (Nat.le_of_ble_eq_true rfl) d_LA_telling_7 (fun v_5 g_6 F_7 H locs hp_8 hw => ?_)
  obtain ⟨rfl, rfl, rfl⟩ := hp_8
  refine lv_istore_n (lv' := [(2, .int (nI (lf + 100))), (0, .ref (wad g (79 + j))), (1, .ref (wad g 57))]) hx hb d_LA_telling_10 rfl hl (by decide) rfl (fun ls hl => ?_)
  refine lv_iload_n hx hb d_LA_telling_11 rfl (lv_at hl 0 rfl) ?_
  refine lv_aload_n hx hb d_LA_telling_12 rfl (lv_at hl 1 rfl) ?_
  refine lv_aload_n hx hb d_LA_telling_13 rfl (lv_at hl 2 rfl) ?_
  refine kWU hc hw lu_LA_23_LA (h := 79 + j) (As := [.ref (wad g 57)]) (rest := [.int (nI (lf + 100))]) (c_WR_writersTelling l D g _ j hj h2 lf ((u2_h (by omega)).trans ((u2_h (by omega)).trans ((u2_h (by omega)).trans (hlf)))) (31 * (31 * (31 * tr + nI 3) + nI 2) + nI 1) (u2_same _ 57 0 _)) (rc_LA hw hj hk0) ⟨Nat.le_of_ble_eq_true rfl, Nat.le_of_ble_eq_true rfl⟩ ⟨Nat.le_refl _, Nat.le_refl _⟩ rfl hl rfl (Nat.le_of_ble_eq_true rfl) d_LA_telling_14 (fun v_9 g_10 F_11 H locs hp_12 hw => ?_)
  obtain ⟨rfl, rfl, rfl⟩ := hp_12
  refine q_iadd hc d_LA_telling_17 ?_
  exact W_i hc hw hr hlocks (⟨rfl, rfl, rfl⟩) d_LA_telling_18
set_option maxHeartbeats 4000000 in
theorem c_WR_greeting (l : Launch) (D : va_G) (g : wG) (F : wF) (j : Nat) (hj : j < wm g) (h2 : wK g j ≤ 2) (hn : F (79 + j) 0 = nI j) (tr : Int32) (h1 : F 57 0 = tr) : CW l y_WR_greeting b_WR_greeting 2 (Option.some Jvm.ClassFile.FieldType.int) 1 0 0 D g F [.ref (wad g (79 + j)), .ref (wad g 57)] (fun v g2 u => v = some (.int (nI (j))) ∧ g = g2 ∧ u = u2 F 57 0 (31 * tr + nI 4)) := by
  refine CW.start rfl (Nat.le_of_ble_eq_true rfl) ?_
  intro p e s m args below meth c A ls hc hr hlocks hw hl
  have hl : lv_has ls 2 [(0, .ref (wad g (79 + j))), (1, .ref (wad g 57))] := hl
  have hx := hc.1
  have hb := hc.2.1
  refine lv_aload_n hx hb d_WR_greeting_0 rfl (lv_at hl 1 rfl) ?_
  refine lv_iconst (v := nI 4) hx hb d_WR_greeting_1 (by decide) ?_
  refine kWV hc hw lk_WR_22 (h := 57) (As := [.int (nI 4)]) (rest := []) (c_TR_leave l D g _ (nI 4) tr (h1)) (rc_TR hw) ⟨Nat.le_of_ble_eq_true rfl, Nat.le_of_ble_eq_true rfl⟩ ⟨Nat.le_refl _, Nat.le_refl _⟩ rfl hl rfl (Nat.le_of_ble_eq_true rfl) d_WR_greeting_2 (fun v_1 g_2 F_3 H locs hp_4 hw => ?_)
  obtain ⟨rfl, rfl, rfl⟩ := hp_4
  refine lv_aload_n hx hb d_WR_greeting_5 rfl (lv_at hl 0 rfl) ?_
  refine gf_WR_9 hc hw (k := j) (hj) (h2) d_WR_greeting_6 (v := .int (nI j)) (congrArg Value.int ((u2_h (by omega)).trans hn)) ?_
  exact W_i hc hw hr hlocks (⟨rfl, rfl, rfl⟩) d_WR_greeting_9
set_option maxHeartbeats 4000000 in
theorem c_LA_greeting (l : Launch) (D : va_G) (g : wG) (F : wF) (j : Nat) (hj : j < wm g) (h2 : wK g j ≤ 2) (tr : Int32) (h1 : F 57 0 = tr) : CW l y_LA_greeting b_LA_greeting 2 (Option.some Jvm.ClassFile.FieldType.int) 1 0 0 D g F [.ref (wad g (79 + j)), .ref (wad g 57)] (fun v g2 u => v = some (.int (nI (90))) ∧ g = g2 ∧ u = u2 F 57 0 (31 * tr + nI 5)) := by
  refine CW.start rfl (Nat.le_of_ble_eq_true rfl) ?_
  intro p e s m args below meth c A ls hc hr hlocks hw hl
  have hl : lv_has ls 2 [(0, .ref (wad g (79 + j))), (1, .ref (wad g 57))] := hl
  have hx := hc.1
  have hb := hc.2.1
  refine lv_aload_n hx hb d_LA_greeting_0 rfl (lv_at hl 1 rfl) ?_
  refine lv_iconst (v := nI 5) hx hb d_LA_greeting_1 (by decide) ?_
  refine kWV hc hw lk_LA_13 (h := 57) (As := [.int (nI 5)]) (rest := []) (c_TR_leave l D g _ (nI 5) tr (h1)) (rc_TR hw) ⟨Nat.le_of_ble_eq_true rfl, Nat.le_of_ble_eq_true rfl⟩ ⟨Nat.le_refl _, Nat.le_refl _⟩ rfl hl rfl (Nat.le_of_ble_eq_true rfl) d_LA_greeting_2 (fun v_1 g_2 F_3 H locs hp_4 hw => ?_)
  obtain ⟨rfl, rfl, rfl⟩ := hp_4
  refine lv_bipush (v := nI 90) hx hb d_LA_greeting_5 (by decide) ?_
  exact W_i hc hw hr hlocks (⟨rfl, rfl, rfl⟩) d_LA_greeting_7
section VS
variable {p : Program} {l : Launch} {e : Env} {R : Room} {s : State} {m : MethodId} {args : Array Value} {below : List Frame} {meth : Method} {c : Code} {H : Heap} {locs : List Loc} {cells slots : Nat} {Q : State → Prop}
variable {cc : ByteArray} {pc : Nat} {ls : Array Slot} {lv : List (Nat × Value)} {rest st : List Value} {D : va_G} {A : Nat → Prop} {H0 : Heap} {nL : Nat} {own : String} {g : wG} {F : wF}
theorem vs_AP_107 (hc : CallFix p m c cc nL s args gws R_AP) (hw : Wd D g F A H0 H locs s) {j : Nat} (hj : j < wm g) (h2 : wK g j ≤ 2) {w : Nat} (hw9 : w < 2 ^ 30) (hR : 2 ≤ R.frames ∧ 64 ≤ R.locals) (hf : cells ≤ R.cells ∧ slots ≤ R.slots) (hl : lv_has ls nL lv) (hroom : (rest.map fun v => v.category).sum ≤ 8) (hdg : decode cc pc = .ok (.invokevirtual 107, 3))
    (kk : W p l e R s m args below meth c H locs cells slots Q (F0 m (pc + 3) ls (.int (nI (shw (wK g j) w)) :: rest))) : W p l e R s m args below meth c H locs cells slots Q (F0 m pc ls (.int (nI w) :: .ref (wad g (79 + j)) :: rest)) := by
  rcases (show wK g j = 0 ∨ wK g j = 1 ∨ wK g j = 2 by omega) with h0 | h0 | h0
  · refine kRU hc hw lu_AP_107_WR (h := 79 + j) (As := [.int (nI w)]) (rest := rest) (c_WR_shows l D g _ j hj h2 w) (rc_WR hw hj h0) ⟨by omega, by omega⟩ hf rfl hl rfl hroom hdg ?_
    rw [show w = shw (wK g j) w from by rw [h0]; simp [shw]]
    exact kk
  · refine kRU hc hw lu_AP_107_MI (h := 79 + j) (As := [.int (nI w)]) (rest := rest) (c_MI_shows l D g _ j hj h2 w) (rc_MI hw hj h0) ⟨by omega, by omega⟩ hf rfl hl rfl hroom hdg ?_
    rw [show w + 3 = shw (wK g j) w from by rw [h0]; simp [shw]]
    exact kk
  · refine kRU hc hw lu_AP_107_LA (h := 79 + j) (As := [.int (nI w)]) (rest := rest) (c_LA_shows l D g _ j hj h2 h0 w (by omega)) (rc_LA hw hj h0) ⟨by omega, by omega⟩ hf rfl hl rfl hroom hdg ?_
    rw [show w + 3 + w / 2 = shw (wK g j) w from by rw [h0]; simp [shw]]
    exact kk
theorem vs_LE_46 (hc : CallFix p m c cc nL s args gws R_LE) (hw : Wd D g F A H0 H locs s) {j : Nat} (hj : j < wm g) (h2 : wK g j ≤ 2) {w : Nat} (hw9 : w < 2 ^ 30) (hR : 2 ≤ R.frames ∧ 64 ≤ R.locals) (hf : cells ≤ R.cells ∧ slots ≤ R.slots) (hl : lv_has ls nL lv) (hroom : (rest.map fun v => v.category).sum ≤ 8) (hdg : decode cc pc = .ok (.invokevirtual 46, 3))
    (kk : W p l e R s m args below meth c H locs cells slots Q (F0 m (pc + 3) ls (.int (nI (shw (wK g j) w)) :: rest))) : W p l e R s m args below meth c H locs cells slots Q (F0 m pc ls (.int (nI w) :: .ref (wad g (79 + j)) :: rest)) := by
  rcases (show wK g j = 0 ∨ wK g j = 1 ∨ wK g j = 2 by omega) with h0 | h0 | h0
  · refine kRU hc hw lu_LE_46_WR (h := 79 + j) (As := [.int (nI w)]) (rest := rest) (c_WR_shows l D g _ j hj h2 w) (rc_WR hw hj h0) ⟨by omega, by omega⟩ hf rfl hl rfl hroom hdg ?_
    rw [show w = shw (wK g j) w from by rw [h0]; simp [shw]]
    exact kk
  · refine kRU hc hw lu_LE_46_MI (h := 79 + j) (As := [.int (nI w)]) (rest := rest) (c_MI_shows l D g _ j hj h2 w) (rc_MI hw hj h0) ⟨by omega, by omega⟩ hf rfl hl rfl hroom hdg ?_
    rw [show w + 3 = shw (wK g j) w from by rw [h0]; simp [shw]]
    exact kk
  · refine kRU hc hw lu_LE_46_LA (h := 79 + j) (As := [.int (nI w)]) (rest := rest) (c_LA_shows l D g _ j hj h2 h0 w (by omega)) (rc_LA hw hj h0) ⟨by omega, by omega⟩ hf rfl hl rfl hroom hdg ?_
    rw [show w + 3 + w / 2 = shw (wK g j) w from by rw [h0]; simp [shw]]
    exact kk
theorem vs_TU_61 (hc : CallFix p m c cc nL s args gws R_TU) (hw : Wd D g F A H0 H locs s) {j : Nat} (hj : j < wm g) (h2 : wK g j ≤ 2) {w : Nat} (hw9 : w < 2 ^ 30) (hR : 2 ≤ R.frames ∧ 64 ≤ R.locals) (hf : cells ≤ R.cells ∧ slots ≤ R.slots) (hl : lv_has ls nL lv) (hroom : (rest.map fun v => v.category).sum ≤ 8) (hdg : decode cc pc = .ok (.invokevirtual 61, 3))
    (kk : W p l e R s m args below meth c H locs cells slots Q (F0 m (pc + 3) ls (.int (nI (shw (wK g j) w)) :: rest))) : W p l e R s m args below meth c H locs cells slots Q (F0 m pc ls (.int (nI w) :: .ref (wad g (79 + j)) :: rest)) := by
  rcases (show wK g j = 0 ∨ wK g j = 1 ∨ wK g j = 2 by omega) with h0 | h0 | h0
  · refine kRU hc hw lu_TU_61_WR (h := 79 + j) (As := [.int (nI w)]) (rest := rest) (c_WR_shows l D g _ j hj h2 w) (rc_WR hw hj h0) ⟨by omega, by omega⟩ hf rfl hl rfl hroom hdg ?_
    rw [show w = shw (wK g j) w from by rw [h0]; simp [shw]]
    exact kk
  · refine kRU hc hw lu_TU_61_MI (h := 79 + j) (As := [.int (nI w)]) (rest := rest) (c_MI_shows l D g _ j hj h2 w) (rc_MI hw hj h0) ⟨by omega, by omega⟩ hf rfl hl rfl hroom hdg ?_
    rw [show w + 3 = shw (wK g j) w from by rw [h0]; simp [shw]]
    exact kk
  · refine kRU hc hw lu_TU_61_LA (h := 79 + j) (As := [.int (nI w)]) (rest := rest) (c_LA_shows l D g _ j hj h2 h0 w (by omega)) (rc_LA hw hj h0) ⟨by omega, by omega⟩ hf rfl hl rfl hroom hdg ?_
    rw [show w + 3 + w / 2 = shw (wK g j) w from by rw [h0]; simp [shw]]
    exact kk
theorem vs_PA_26 (hc : CallFix p m c cc nL s args gws R_PA) (hw : Wd D g F A H0 H locs s) {j : Nat} (hj : j < wm g) (h2 : wK g j ≤ 2) {w : Nat} (hw9 : w < 2 ^ 30) (hR : 2 ≤ R.frames ∧ 64 ≤ R.locals) (hf : cells ≤ R.cells ∧ slots ≤ R.slots) (hl : lv_has ls nL lv) (hroom : (rest.map fun v => v.category).sum ≤ 8) (hdg : decode cc pc = .ok (.invokevirtual 26, 3))
    (kk : W p l e R s m args below meth c H locs cells slots Q (F0 m (pc + 3) ls (.int (nI (shw (wK g j) w)) :: rest))) : W p l e R s m args below meth c H locs cells slots Q (F0 m pc ls (.int (nI w) :: .ref (wad g (79 + j)) :: rest)) := by
  rcases (show wK g j = 0 ∨ wK g j = 1 ∨ wK g j = 2 by omega) with h0 | h0 | h0
  · refine kRU hc hw lu_PA_26_WR (h := 79 + j) (As := [.int (nI w)]) (rest := rest) (c_WR_shows l D g _ j hj h2 w) (rc_WR hw hj h0) ⟨by omega, by omega⟩ hf rfl hl rfl hroom hdg ?_
    rw [show w = shw (wK g j) w from by rw [h0]; simp [shw]]
    exact kk
  · refine kRU hc hw lu_PA_26_MI (h := 79 + j) (As := [.int (nI w)]) (rest := rest) (c_MI_shows l D g _ j hj h2 w) (rc_MI hw hj h0) ⟨by omega, by omega⟩ hf rfl hl rfl hroom hdg ?_
    rw [show w + 3 = shw (wK g j) w from by rw [h0]; simp [shw]]
    exact kk
  · refine kRU hc hw lu_PA_26_LA (h := 79 + j) (As := [.int (nI w)]) (rest := rest) (c_LA_shows l D g _ j hj h2 h0 w (by omega)) (rc_LA hw hj h0) ⟨by omega, by omega⟩ hf rfl hl rfl hroom hdg ?_
    rw [show w + 3 + w / 2 = shw (wK g j) w from by rw [h0]; simp [shw]]
    exact kk
theorem vk_AP_100 (hc : CallFix p m c cc nL s args gws R_AP) (hw : Wd D g F A H0 H locs s) {j : Nat} (hj : j < wm g) (h2 : wK g j ≤ 2) (hR : 1 ≤ R.frames ∧ 30 ≤ R.locals) (hf : cells ≤ R.cells ∧ slots ≤ R.slots) (hl : lv_has ls nL lv) (hroom : (rest.map fun v => v.category).sum ≤ 8) (hdg : decode cc pc = .ok (.invokevirtual 100, 3))
    (kk : W p l e R s m args below meth c H locs cells slots Q (F0 m (pc + 3) ls (.int (nI (wK g j)) :: rest))) : W p l e R s m args below meth c H locs cells slots Q (F0 m pc ls (.ref (wad g (79 + j)) :: rest)) := by
  rcases (show wK g j = 0 ∨ wK g j = 1 ∨ wK g j = 2 by omega) with h0 | h0 | h0
  · refine kRU hc hw lu_AP_100_WR (h := 79 + j) (As := []) (rest := rest) (c_WR_kind l D g _ j hj h2) (rc_WR hw hj h0) ⟨by omega, by omega⟩ hf rfl hl rfl hroom hdg ?_
    rw [show nI 0 = nI (wK g j) from by rw [h0]]
    exact kk
  · refine kRU hc hw lu_AP_100_MI (h := 79 + j) (As := []) (rest := rest) (c_MI_kind l D g _ j hj h2) (rc_MI hw hj h0) ⟨by omega, by omega⟩ hf rfl hl rfl hroom hdg ?_
    rw [show nI 1 = nI (wK g j) from by rw [h0]]
    exact kk
  · refine kRU hc hw lu_AP_100_LA (h := 79 + j) (As := []) (rest := rest) (c_LA_kind l D g _ j hj h2) (rc_LA hw hj h0) ⟨by omega, by omega⟩ hf rfl hl rfl hroom hdg ?_
    rw [show nI 2 = nI (wK g j) from by rw [h0]]
    exact kk
end VS
