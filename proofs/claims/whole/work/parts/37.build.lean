/-! worlds in the making: contracts of constructors, rows over a list of cells that grows -/
def XM (X : State → Prop) : Prop := ∀ u U : State, u.vm.Alike U.vm → X u → X U
def Xz (g : wG) (U : State) : Prop := va_AO R_RW U ∧ va_AO R_WR U ∧ (∃ kA : Class, U.vm.classes[wcII g]? = some kA ∧ kA.kind = .array (wcI g) (.array .int)) ∧ ∃ (kC : Class) (ct : ClassId), U.vm.classes[wcI g]? = some kC ∧ kC.kind = .array ct .int
theorem XM_t : XM (fun _ => True) := fun _ _ _ _ => trivial
theorem XM_z (g : wG) : XM (Xz g) := fun u U hvm h => by
  obtain ⟨h1, h2, ⟨kA, h3, h4⟩, kC, ct, h5, h6⟩ := h
  obtain ⟨k1, e1, q1⟩ := hvm.2.2 _ _ h3
  obtain ⟨k2, e2, q2⟩ := hvm.2.2 _ _ h5
  exact ⟨h1.moved hvm, h2.moved hvm, ⟨k1, e1, by rw [q1]; exact h4⟩, k2, ct, e2, by rw [q2]; exact h6⟩
def Wv (D : va_G) (X : State → Prop) (g : wG) (ws : va_W) (A : Nat → Prop) (H0 H : Heap) (locs : List Loc) (s : State) : Prop :=
  va_K D classes (wtys g) s ∧ va_P D classes ws H ∧ va_D A ws ∧ va_S A H0 H locs ∧ (∀ q, H0.size ≤ q → A q) ∧ Nz s ∧ X s
def Pv (D : va_G) (X : State → Prop) (g : wG) (ws : va_W) (sz : Nat) (U : State) : Prop :=
  U.heap.size = sz ∧ va_K D classes (wtys g) U ∧ va_P D classes ws U.heap ∧ va_D (fun _ => True) ws ∧ Nz U ∧ X U
def Bv (D : va_G) (X : State → Prop) (g : wG) (A : Nat → Prop) (ws : va_W) (t : State) : Prop :=
  va_K D classes (wtys g) t ∧ va_P D classes ws t.heap ∧ va_D A ws ∧ Nz t ∧ X t
def Qv (post : Option Value → va_W → Prop) (B : va_W → State → Prop) (A : Nat → Prop) : Array Value → State → Outcome → State → Prop :=
  fun _ st oc t => (∃ (v : Option Value) (ws : va_W), oc = .returned v ∧ post v ws ∧ B ws t) ∧ va_F A st t
/-- a method over a list of cells -/
def CV (l : Launch) (y : MethodName) (b : ByteArray) (n : Nat) (ret : Option FieldType) (d mc ms : Nat) (D : va_G) (X : State → Prop) (g : wG) (ws : va_W) (av : List Value) (post : Option Value → va_W → Prop) : Prop :=
  ∀ sz, Met l y (.code y b n ret :: gws) (rmc d mc ms) (va_Pc av (Pv D X g ws sz)) (Qv post (Bv D X g (va_A ws sz)) (va_A ws sz)) mc ms (va_A ws sz)
theorem Pv.blind (D : va_G) {X : State → Prop} (hX : XM X) (g : wG) (ws : va_W) (sz : Nat) (av : List Value) : FrameBlind (va_Pc av (Pv D X g ws sz)) := fun a U f mk q => by
  obtain ⟨q0, q1, q2, q3, q4, q5, q6⟩ := q
  exact ⟨q0, q1, va_K.moved (u := U) (U := U.calling f mk a) (Vm.Alike.refl U.vm) q2, q3, q4, Nz.same (s := U) (U := U.calling f mk a) rfl q5, hX U (U.calling f mk a) (Vm.Alike.refl U.vm) q6⟩
section VS
variable {p : Program} {l : Launch} {e : Env} {R : Room} {s : State} {m : MethodId} {args : Array Value} {below : List Frame} {meth : Method} {c : Code} {H : Heap} {locs : List Loc} {cells slots : Nat} {Q : State → Prop}
variable {cc : ByteArray} {pc : Nat} {ls : Array Slot} {lv : List (Nat × Value)} {rest st : List Value} {D : va_G} {X : State → Prop} {A : Nat → Prop} {H0 : Heap} {nL : Nat} {own : String} {g : wG} {ws sf : va_W}
theorem Wv.pre (hX : XM X) (hw : Wv D X g ws A H0 H locs s) {U : State} (hU : U.heap = H) (hW : s.WarmedH U.vm) : Pv D X g ws H.size U := by
  obtain ⟨hK, hP, hD, hS, hA, hN, hx⟩ := hw
  exact ⟨by rw [hU], va_K.moved hW.alike hK, by rw [hU]; exact hP, hD.weaken (fun _ _ _ _ => trivial), hN.warm hW, hX _ _ hW.alike hx⟩
theorem Wv.free (hw : Wv D X g ws A H0 H locs s) : ∀ q, va_A ws H.size q → A q := by
  obtain ⟨hK, hP, hD, hS, hA, hN⟩ := hw
  intro q h
  rcases h with ⟨k, e, h⟩ | h
  · exact hD.2 k (q, e) h
  · exact hA q (Nat.le_trans hS.1 h)
theorem CV.start (hX : XM X) {y : MethodName} {b : ByteArray} {n : Nat} {ret : Option FieldType} {d mc ms : Nat} {av : List Value} {post : Option Value → va_W → Prop} (hy : plainName y.cls = true) (hn : (lg_sl av).length ≤ n)
    (body : ∀ (p : Program) (e : Env) (s : State) (m : MethodId) (args : Array Value) (below : List Frame) (meth : Method) (c : Code) (A : Nat → Prop) (ls : Array Slot), CallFix p m c b n s args gws y.cls → meth.sig.returnType = ret → meth.locks = false → meth.name = y.name →
      Wv D X g ws A s.heap s.heap [] s → lv_has ls n (lv_args 0 av) → W p l e (rmc d mc ms) s m args below meth c s.heap [] 0 0 (MQ below (Qv post (Bv D X g A) A) args s mc ms A) (F0 m 0 ls [])) : CV l y b n ret d mc ms D X g ws av post := by
  intro sz
  refine Met.ofW (cc := b) (maxL := n) (ret := ret) hy rfl ?_
  intro p e s m args below meth c s₁ B hml hv
  obtain ⟨rfl, hsz, hK, hP, hD0, hN, hx⟩ := hv
  subst hsz
  have hts := atoms_spec (ws := .code y b n ret :: gws) B.pre
  have hl := lv_entry av (n := n) hn
  rw [lg_entry_eq]
  generalize (lg_sl av ++ List.replicate (n - (lg_sl av).length) Slot.unset).toArray = ls at hl ⊢
  exact body p e s m _ below meth c (va_A ws s.heap.size) ls ⟨B.exec, B.bytes, hml, findClass_of_methodNamed B.named, fun w hw => hts w (List.mem_cons_of_mem _ hw)⟩ B.returns B.notSynchronized (name_of_methodNamed B.named B.method).1 ⟨hK, hP, hD0.self, va_S.rf, fun q h => Or.inr h, hN, hx⟩ hl
variable {post : Option Value → va_W → Prop}
theorem Wv.fin (hX : XM X) (hw : Wv D X g ws A s.heap H locs s) {v : Option Value} (hp : post v ws) {t : State} (ht : t.heap = H) (hW : s.WarmedH t.vm) : Qv post (Bv D X g A) A args s (.returned v) t := by
  obtain ⟨hK, hP, hD, hS, hA, hN, hx⟩ := hw
  exact ⟨⟨v, ws, rfl, hp, va_K.moved hW.alike hK, by rw [ht]; exact hP, hD, hN.warm hW, hX _ _ hW.alike hx⟩, hS.F ht⟩
theorem V_v (hX : XM X) (hc : CallFix p m c cc nL s args gws own) (hw : Wv D X g ws A s.heap H locs s) (hr : meth.sig.returnType = none) (hlocks : meth.locks = false) (hp : post none ws) (hdg : decode cc pc = .ok (.return_, 1)) :
    W p l e R s m args below meth c H locs cells slots (MQ below (Qv post (Bv D X g A) A) args s cells slots A) (F0 m pc ls []) :=
  W.vret hc.1 hc.2.1 hr (fun t ht hW => hw.fin hX hp ht hW) hw.2.2.2.1.2.2 hdg hlocks
theorem V_a (hX : XM X) (hc : CallFix p m c cc nL s args gws own) (hw : Wv D X g ws A s.heap H locs s) {rt : FieldType} (hr : meth.sig.returnType = some rt) (hrt : (∃ n, rt = .object n) ∨ ∃ t, rt = .array t) (hlocks : meth.locks = false) {a : Nat} (hp : post (some (.ref a)) ws) (hdg : decode cc pc = .ok (.areturn, 1)) :
    W p l e R s m args below meth c H locs cells slots (MQ below (Qv post (Bv D X g A) A) args s cells slots A) (F0 m pc ls [.ref a]) :=
  W.aret hc.1 hc.2.1 hr hrt (Or.inr ⟨a, rfl⟩) (fun t ht hW => hw.fin hX hp ht hW) hw.2.2.2.1.2.2 hdg hlocks
-- calls
def LkI (own : String) (idx : Nat) (y : MethodName) (b : ByteArray) (n : Nat) (k : Nat) : Prop :=
  LkB y b n none k ∧ Cond.methodLink own idx y ∈ gws ∧ y.name = "<init>" ∧ Cond.instanceMethod y ∈ gws
def LkM (own : String) (idx : Nat) (y : MethodName) (b : ByteArray) (n : Nat) (k : Nat) : Prop :=
  LkB y b n none k ∧ (∃ host, Cond.methodLinkNest own idx y host ∈ nwl) ∧ y.name = "<init>" ∧ Cond.instanceMethod y ∈ gws
variable {y : MethodName} {b : ByteArray} {n k idx d mc ms a : Nat} {ret : Option FieldType} {As : List Value}
theorem finV (hX : XM X) {aa : Array Value} (hr : va_Run p l e R s m args below meth c H locs cells slots mc ms (F0 m pc ls st) rest (Qv post (Bv D X g (va_A ws H.size)) (va_A ws H.size) aa) (va_A ws H.size)) (hw : Wv D X g ws A H0 H locs s)
    (kk : ∀ (v : Option Value) (ws1 : va_W) (H1 : Heap) (locs1 : List Loc), post v ws1 → Wv D X g ws1 A H0 H1 locs1 s → W p l e R s m args below meth c H1 locs1 (cells + mc) (slots + ms) Q (F0 m (pc + 3) ls (v.toList ++ rest))) : W p l e R s m args below meth c H locs cells slots Q (F0 m pc ls st) := by
  intro T hT X9
  obtain ⟨v, st₀, t, T', L, h0, X', hL, e1, e2, ⟨⟨v', ws1, hv, hp, hK1, hP1, hD1, hN1, hx1⟩, hz, hk⟩, stp⟩ := hr T hT X9
  cases hv
  rw [h0] at hz hk
  have hfr := hw.free
  obtain ⟨hK, hP, hD, hS, hA, hN, hx⟩ := hw
  have hal : s.vm.Alike t.vm := by rw [← e2]; exact X'.warmed.alike
  obtain ⟨t2, a1, b1⟩ := kk v ws1 T'.heap (locs ++ L) hp ⟨va_K.moved hal.symm hK1, by rw [e1]; exact hP1, hD1.weaken (fun _ q _ hq => hfr q.1 hq), ⟨Nat.le_trans hS.1 (by rw [e1]; exact hz), fun q h1 h2 => by rw [e1, hk q (Nat.lt_of_lt_of_le h1 hS.1) (fun z => h2 (hfr q z))]; exact hS.2.1 q h1 h2, fun q hq => by
      rcases List.mem_append.mp hq with h | h
      · exact hS.2.2 q h
      · exact hfr _ (hL q h)⟩, hA, hN, hx⟩ T' rfl X'
  exact ⟨t2, stp t2 a1, b1⟩
theorem kVI (hX : XM X) (hc : CallFix p m c cc nL s args gws own) (hw : Wv D X g ws A H0 H locs s) (lk : LkI own idx y b n k) (hM : CV l y b n none d mc ms D X g ws (.ref a :: As) post)
    (hR : d + 1 ≤ R.frames ∧ 8 + (n + 11) + 34 * d ≤ R.locals) (hf : cells + mc ≤ R.cells ∧ slots + ms ≤ R.slots) (hn : As.length = k) (hl : lv_has ls nL lv) (hst : st = As.reverse ++ .ref a :: rest) (hroom : (rest.map fun v => v.category).sum ≤ 8) (hdg : decode cc pc = .ok (.invokespecial idx, 3))
    (kk : ∀ (v : Option Value) (ws1 : va_W) (H1 : Heap) (locs1 : List Loc), post v ws1 → Wv D X g ws1 A H0 H1 locs1 s → W p l e R s m args below meth c H1 locs1 (cells + mc) (slots + ms) Q (F0 m (pc + 3) ls (v.toList ++ rest))) : W p l e R s m args below meth c H locs cells slots Q (F0 m pc ls st) := by
  obtain ⟨⟨h1, h2, h3, h4, h5⟩, h6, h7, h8⟩ := lk
  have hts := hc.2.2.2.2
  exact finV hX (va_runI hc (hM H.size) ⟨callB_of k hts (g_into (fun _ h => h) h1) rfl rfl rfl (hts _ h2) (hts _ h6) ⟨h3, h4, h5⟩ hR, h7, hts _ h8⟩ ⟨Pv.blind D hX g ws _ _, fun U hU hW => ⟨rfl, hw.pre hX hU hW⟩⟩ rfl hn hl.1 hst (lv_room hroom) hdg hf) hw kk
theorem kVM (hX : XM X) (hc : CallFix p m c cc nL s args gws own) (hw : Wv D X g ws A H0 H locs s) (lk : LkM own idx y b n k) (hM : CV l y b n none d mc ms D X g ws (.ref a :: As) post)
    (hR : d + 1 ≤ R.frames ∧ 8 + (n + 11) + 34 * d ≤ R.locals) (hf : cells + mc ≤ R.cells ∧ slots + ms ≤ R.slots) (hn : As.length = k) (hl : lv_has ls nL lv) (hst : st = As.reverse ++ .ref a :: rest) (hroom : (rest.map fun v => v.category).sum ≤ 8) (hdg : decode cc pc = .ok (.invokespecial idx, 3))
    (kk : ∀ (v : Option Value) (ws1 : va_W) (H1 : Heap) (locs1 : List Loc), post v ws1 → Wv D X g ws1 A H0 H1 locs1 s → W p l e R s m args below meth c H1 locs1 (cells + mc) (slots + ms) Q (F0 m (pc + 3) ls (v.toList ++ rest))) : W p l e R s m args below meth c H locs cells slots Q (F0 m pc ls st) := by
  obtain ⟨⟨h1, h2, h3, h4, h5⟩, ⟨host, h6⟩, h7, h8⟩ := lk
  have hts := hc.2.2.2.2
  exact finV hX (va_runIN (host := host) hc (hM H.size) ⟨va_cnB k hts (g_into (fun _ h => h) h1) rfl rfl rfl (hw.2.2.2.2.2.1.1 _ h6) (hts _ h2) ⟨h3, h4, h5⟩ hR, h7, hts _ h8⟩ ⟨Pv.blind D hX g ws _ _, fun U hU hW => ⟨rfl, hw.pre hX hU hW⟩⟩ rfl hn hl.1 hst (lv_room hroom) hdg hf) hw kk
theorem kVS (hX : XM X) (hc : CallFix p m c cc nL s args gws own) (hw : Wv D X g ws A H0 H locs s) (lk : LkS own idx y b n ret k) (hM : CV l y b n ret d mc ms D X g ws As post)
    (hR : d + 1 ≤ R.frames ∧ 8 + (n + 11) + 34 * d ≤ R.locals) (hf : cells + mc ≤ R.cells ∧ slots + ms ≤ R.slots) (hn : As.length = k) (hl : lv_has ls nL lv) (hst : st = As.reverse ++ rest) (hroom : (rest.map fun v => v.category).sum ≤ 8) (hdg : decode cc pc = .ok (.invokestatic idx, 3))
    (kk : ∀ (v : Option Value) (ws1 : va_W) (H1 : Heap) (locs1 : List Loc), post v ws1 → Wv D X g ws1 A H0 H1 locs1 s → W p l e R s m args below meth c H1 locs1 (cells + mc) (slots + ms) Q (F0 m (pc + 3) ls (v.toList ++ rest))) : W p l e R s m args below meth c H locs cells slots Q (F0 m pc ls st) := by
  obtain ⟨⟨h1, h2, h3, h4, h5⟩, h6, h7⟩ := lk
  have hts := hc.2.2.2.2
  exact finV hX (va_runS hc (hM H.size) ⟨callB_of k hts (g_into (fun _ h => h) h1) rfl rfl rfl (hts _ h2) (hts _ h6) ⟨h3, h4, h5⟩ hR, hts _ h7⟩ ⟨Pv.blind D hX g ws _ _, fun U hU hW => ⟨rfl, hw.pre hX hU hW⟩⟩ rfl hn hl.1 hst (lv_room hroom) hdg hf) hw kk
-- rows
theorem v_obj (hc : CallFix p m c cc nL s args gws own) (hl : lv_has ls nL lv) (hlink : Cond.methodLink own idx ⟨"java/lang/Object", "<init>", "()V"⟩ ∈ gws) (hf : 1 ≤ R.frames) (hlo : (rest.map fun v => v.category).sum + 12 ≤ R.locals) (hdg : decode cc pc = .ok (.invokespecial idx, 3))
    (kk : W p l e R s m args below meth c H locs cells slots Q (F0 m (pc + 3) ls rest)) : W p l e R s m args below meth c H locs cells slots Q (F0 m pc ls (.ref a :: rest)) :=
  W.objInit hc.1 hc.2.1 hc.2.2.2.1 (hc.2.2.2.2 _ hlink) (hc.2.2.2.2 _ g_21) (hc.2.2.2.2 _ g_22) rfl (hl.1.trans hc.2.2.1.symm) rfl hdg hf (by show 2 * 0 + _ + 12 ≤ _; omega) kk
theorem v_new (hc : CallFix p m c cc nL s args gws own) (hw : Wv D X g (ws ++ sf) A H0 H locs s) (ci : Nat) {C : String} {T : u_T} {N : Nat} (hin : ∀ w ∈ u_ws C T N, w ∈ gws) (ty : Nat → FieldType) (hty : ∀ k, k < N → parseFieldDescriptor (T k).2.2.1 = some (ty k)) (h1 : Cond.classLink own idx C ∈ gws) (h2 : Cond.instantiable C N ∈ gws) (h3 : Cond.initialized C ∈ gws) (hci : classes[ci]? = some (C, T, N)) (fs : List Value) (hfs : ∀ j, j < N → defaultValue (ty j) = vp_V fs j)
    (hce : cells + 1 ≤ R.cells) (hsl : slots + N ≤ R.slots) (hdg : decode cc pc = .ok (.new idx, 3))
    (kk : ∀ (q : Nat) (H1 : Heap), Wv D X g (ws ++ (sf ++ [(q, .inr (ci, fs))])) A H0 H1 locs s → W p l e R s m args below meth c H1 locs (cells + 1) (slots + N) Q (F0 m (pc + 3) ls (.ref q :: rest))) : W p l e R s m args below meth c H locs cells slots Q (F0 m pc ls rest) := by
  obtain ⟨hK, hP, hD, hS, hA, hN, hx⟩ := hw
  refine va_new (ci := ci) hc.1 hc.2.1 hc.2.2.2.2 hin ty hty hc.2.2.2.1 (hc.2.2.2.2 _ h1) (hc.2.2.2.2 _ h2) (hc.2.2.2.2 _ h3) hK hP hD hS hA hci hfs hce hsl hdg (fun q H1 hP hD hS => ?_)
  rw [List.append_assoc] at hP hD
  exact kk q H1 ⟨hK, hP, hD, hS, hA, hN, hx⟩
theorem v_newi (hc : CallFix p m c cc nL s args gws own) (hw : Wv D X g (ws ++ sf) A H0 H locs s) {N : Nat} (hN9 : N ≤ 1000) (hce : cells + 1 ≤ R.cells) (hsl : slots + N ≤ R.slots) (hdg : decode cc pc = .ok (.newarray .int, 2))
    (kk : ∀ (q : Nat) (H1 : Heap), Wv D X g (ws ++ (sf ++ [(q, eI g N (fun _ => 0))])) A H0 H1 locs s → W p l e R s m args below meth c H1 locs (cells + 1) (slots + N) Q (F0 m (pc + 2) ls (.ref q :: rest))) : W p l e R s m args below meth c H locs cells slots Q (F0 m pc ls (.int (nI N) :: rest)) := by
  obtain ⟨hK, hP, hD, hS, hA, hN, hx⟩ := hw
  refine va_newa (atype := .int) (ty := .int) (a0 := (N, .inl (fun _ => 0))) hc.1 hc.2.1 (hc.2.2.2.2 _ g_42) rfl hK hP hD hS hA (fun _ => rfl) (nI_pos (by omega)) (nI_clamp (by omega)) (by show N * 4 ≤ _; omega) hce hsl hdg (fun q cA H1 hK1 hP hD hS => ?_)
  have e1 : s.vm.findClass ("[" ++ FieldType.int.toString) = some (wcI g) := (hK.2 0 _ rfl).2
  have e2 : s.vm.findClass ("[" ++ FieldType.int.toString) = some cA := (hK1.2 4 (cA, .int) rfl).2
  have e3 : cA = wcI g := Option.some.inj (e2.symm.trans e1)
  subst e3
  rw [List.append_assoc] at hP hD
  exact kk q H1 ⟨hK, hP, hD, hS, hA, hN, hx⟩
theorem v_newq (hc : CallFix p m c cc nL s args gws own) (hw : Wv D X g (ws ++ sf) A H0 H locs s) {C : String} {t0 : Nat} {cQ : ClassId} (ht : (wtys g)[t0]? = some (cQ, .object C)) (h1 : Cond.classLink own idx C ∈ gws) (hover : va_AO C s) {N : Nat} (hN9 : N ≤ 1000) (hce : cells + 1 ≤ R.cells) (hsl : slots + N ≤ R.slots) (hdg : decode cc pc = .ok (.anewarray idx, 3))
    (kk : ∀ (q : Nat) (H1 : Heap), Wv D X g (ws ++ (sf ++ [(q, eQ cQ N (fun _ => none))])) A H0 H1 locs s → W p l e R s m args below meth c H1 locs (cells + 1) (slots + N) Q (F0 m (pc + 3) ls (.ref q :: rest))) : W p l e R s m args below meth c H locs cells slots Q (F0 m pc ls (.int (nI N) :: rest)) := by
  obtain ⟨hK, hP, hD, hS, hA, hN, hx⟩ := hw
  refine va_newq (C := C) hc.1 hc.2.1 hc.2.2.2.1 (hc.2.2.2.2 _ h1) hover hK hP hD hS hA (nI_pos (by omega)) (nI_clamp (by omega)) (by omega) hce hsl hdg (fun q cA H1 hK1 hP hD hS => ?_)
  obtain ⟨_, _, _, _, _, e1⟩ := (hK.2 t0 _ ht).2
  obtain ⟨_, _, _, _, _, e2⟩ := (hK1.2 4 (cA, .object C) rfl).2
  have e3 : cA = cQ := Option.some.inj (e2.symm.trans e1)
  subst e3
  rw [List.append_assoc] at hP hD
  exact kk q H1 ⟨hK, hP, hD, hS, hA, hN, hx⟩
theorem ap_at {j : Nat} {x : Nat × va_E} (h : sf[j]? = some x) : (ws ++ sf)[ws.length + j]? = some x := by
  rw [List.getElem?_append_right (by omega), show ws.length + j - ws.length = j by omega]; exact h
theorem ap_set {j : Nat} {x : Nat × va_E} : (ws ++ sf).set (ws.length + j) x = ws ++ sf.set j x := by
  rw [List.set_append_right _ _ (by omega), show ws.length + j - ws.length = j by omega]
theorem v_put (hc : CallFix p m c cc nL s args gws own) (hw : Wv D X g (ws ++ sf) A H0 H locs s) (j ci : Nat) {C : String} {T : u_T} {N : Nat} (hin : ∀ w ∈ u_ws C T N, w ∈ gws) (ty : Nat → FieldType) (hty : ∀ k, k < N → parseFieldDescriptor (T k).2.2.1 = some (ty k)) (hnm : ∀ a, a < N → ∀ b, b < N → a ≠ b → (T a).2.1 ≠ (T b).2.1) (hci : classes[ci]? = some (C, T, N)) {fs : List Value} (he : sf[j]? = some (a, .inr (ci, fs))) (k : Nat) (hk : k < N) {tk : FieldType} {v : Value}
    (hlink : Cond.fieldLink own idx (T k).1 (T k).2.1 (T k).2.2.1 ∈ gws) (hfin : (T k).2.2.2 = false) (hd : parseFieldDescriptor (T k).2.2.1 = some tk) (hn : narrow tk v = v) (hfit : fits tk v = true) (hl9 : k < fs.length) (hdg : decode cc pc = .ok (.putfield idx, 3))
    (kk : ∀ (H1 : Heap) (locs1 : List Loc), Wv D X g (ws ++ sf.set j (a, .inr (ci, fs.set k v))) A H0 H1 locs1 s → W p l e R s m args below meth c H1 locs1 cells slots Q (F0 m (pc + 3) ls rest)) : W p l e R s m args below meth c H locs cells slots Q (F0 m pc ls (v :: .ref a :: rest)) := by
  obtain ⟨hK, hP, hD, hS, hA, hN, hx⟩ := hw
  refine va_put (ci := ci) (ref := (T k).1) hc.1 hc.2.1 hc.2.2.2.2 hin ty hty hnm hc.2.2.2.1 hK hP hD hS (ws.length + j) (ap_at he) hci k hk (hc.2.2.2.2 _ hlink) (fun _ h => h) hfin hd hn hfit hl9 hdg (fun H1 locs1 hP hD hS => ?_)
  rw [ap_set] at hP hD
  exact kk H1 locs1 ⟨hK, hP, hD, hS, hA, hN, hx⟩
theorem v_putF (hc : CallFix p m c cc nL s args gws own) (hw : Wv D X g (ws ++ sf) A H0 H locs s) (j ci : Nat) {C : String} {T : u_T} {N : Nat} (hin : ∀ w ∈ u_ws C T N, w ∈ gws) (ty : Nat → FieldType) (hty : ∀ k, k < N → parseFieldDescriptor (T k).2.2.1 = some (ty k)) (hnm : ∀ a, a < N → ∀ b, b < N → a ≠ b → (T a).2.1 ≠ (T b).2.1) (hci : classes[ci]? = some (C, T, N)) {fs : List Value} (he : sf[j]? = some (a, .inr (ci, fs))) (k : Nat) (hk : k < N) {tk : FieldType} {v : Value}
    (hlink : Cond.fieldLink own idx (T k).1 (T k).2.1 (T k).2.2.1 ∈ gws) (hfin : (T k).2.2.2 = true) (hnam : meth.name = "<init>") (hdecl : (T k).1 = own) (hd : parseFieldDescriptor (T k).2.2.1 = some tk) (hn : narrow tk v = v) (hfit : fits tk v = true) (hl9 : k < fs.length) (hdg : decode cc pc = .ok (.putfield idx, 3))
    (kk : ∀ (H1 : Heap) (locs1 : List Loc), Wv D X g (ws ++ sf.set j (a, .inr (ci, fs.set k v))) A H0 H1 locs1 s → W p l e R s m args below meth c H1 locs1 cells slots Q (F0 m (pc + 3) ls rest)) : W p l e R s m args below meth c H locs cells slots Q (F0 m pc ls (v :: .ref a :: rest)) := by
  obtain ⟨hK, hP, hD, hS, hA, hN, hx⟩ := hw
  refine va_putF (ci := ci) (ref := (T k).1) hc.1 hc.2.1 hc.2.2.2.2 hin ty hty hnm hc.2.2.2.1 hK hP hD hS (ws.length + j) (ap_at he) hci k hk (hc.2.2.2.2 _ hlink) (fun _ h => h) hfin hnam hdecl hd hn hfit hl9 hdg (fun H1 locs1 hP hD hS => ?_)
  rw [ap_set] at hP hD
  exact kk H1 locs1 ⟨hK, hP, hD, hS, hA, hN, hx⟩
theorem v_get (hc : CallFix p m c cc nL s args gws own) (hw : Wv D X g (ws ++ sf) A H0 H locs s) (j ci : Nat) {C : String} {T : u_T} {N : Nat} (hin : ∀ w ∈ u_ws C T N, w ∈ gws) (hci : classes[ci]? = some (C, T, N)) {fs : List Value} (he : sf[j]? = some (a, .inr (ci, fs))) (k : Nat) (hk : k < N) {v : Value} (hlink : Cond.fieldLink own idx (T k).1 (T k).2.1 (T k).2.2.1 ∈ gws) (hv : fs[k]? = some v) (hdg : decode cc pc = .ok (.getfield idx, 3))
    (kk : W p l e R s m args below meth c H locs cells slots Q (F0 m (pc + 3) ls (v :: rest))) : W p l e R s m args below meth c H locs cells slots Q (F0 m pc ls (.ref a :: rest)) :=
  va_get (ci := ci) (ref := (T k).1) hc.1 hc.2.1 hc.2.2.2.2 hin hc.2.2.2.1 hw.1 hw.2.1 (ws.length + j) (ap_at he) hci k hk (hc.2.2.2.2 _ hlink) (fun _ h => h) hv hdg kk
theorem v_ast (hc : CallFix p m c cc nL s args gws own) (hw : Wv D X g (ws ++ sf) A H0 H locs s) (j jv ci : Nat) {t0 : Nat} {cQ : ClassId} {r : vw_C} (ht : (wtys g)[t0]? = some (cQ, .object r.1)) (hci : classes[ci]? = some r) {N v : Nat} {f : Nat → Option Nat} {vs : List Value} (he : sf[j]? = some (a, eQ cQ N f)) (hev : sf[jv]? = some (v, .inr (ci, vs))) {i : Nat} (hi : i < N) (hN9 : N ≤ 1000) (hdg : decode cc pc = .ok (.aastore, 1))
    (kk : ∀ (H1 : Heap) (locs1 : List Loc), Wv D X g (ws ++ sf.set j (a, eQ cQ N (va_up f i (some v)))) A H0 H1 locs1 s → W p l e R s m args below meth c H1 locs1 cells slots Q (F0 m (pc + 1) ls rest)) : W p l e R s m args below meth c H locs cells slots Q (F0 m pc ls (.ref v :: .int (nI i) :: .ref a :: rest)) := by
  obtain ⟨hK, hP, hD, hS, hA, hN, hx⟩ := hw
  refine va_astq hc.1 hc.2.1 hK hP hD hS (ws.length + j) t0 (ws.length + jv) ci (ap_at he) ht (ap_at hev) hci (vp_in_nI hi (by omega)) hdg (fun H1 locs1 hP hD hS => ?_)
  rw [ap_set, nI_clamp (by omega)] at hP hD
  exact kk H1 locs1 ⟨hK, hP, hD, hS, hA, hN, hx⟩
theorem v_iast (hc : CallFix p m c cc nL s args gws own) (hw : Wv D X g (ws ++ sf) A H0 H locs s) (j : Nat) {N : Nat} {f : Nat → Int32} (he : sf[j]? = some (a, eI g N f)) {i : Nat} (hi : i < N) (hN9 : N ≤ 1000) {x : Int32} (hdg : decode cc pc = .ok (.iastore, 1))
    (kk : ∀ (H1 : Heap) (locs1 : List Loc), Wv D X g (ws ++ sf.set j (a, eI g N (upd f i x))) A H0 H1 locs1 s → W p l e R s m args below meth c H1 locs1 cells slots Q (F0 m (pc + 1) ls rest)) : W p l e R s m args below meth c H locs cells slots Q (F0 m pc ls (.int x :: .int (nI i) :: .ref a :: rest)) := by
  obtain ⟨hK, hP, hD, hS, hA, hN, hx⟩ := hw
  refine va_iast hc.1 hc.2.1 hK hP hD hS (ws.length + j) 0 (ap_at he) rfl (vp_in_nI hi (by omega)) hdg (fun H1 locs1 hP hD hS => ?_)
  rw [ap_set, nI_clamp (by omega)] at hP hD
  exact kk H1 locs1 ⟨hK, hP, hD, hS, hA, hN, hx⟩
def rowL (g : wG) (q : Nat) (N M : Nat) : va_W := (q, eQ (wcII g) N (fun i => if i < N then some (q + 1 + i) else none)) :: (List.range N).map (fun i => (q + 1 + i, eI g M (fun _ => 0)))
theorem v_multi (hc : CallFix p m c cc nL s args gws own) (hw : Wv D (Xz g) g (ws ++ sf) A H0 H locs s) (h1 : Cond.classLink own idx "[[I" ∈ gws) {N M : Nat} (hN9 : N ≤ 100) (hM9 : M ≤ 1000) (hce : cells + (1 + N) ≤ R.cells) (hsl : slots + (N + N * M) ≤ R.slots) (hdg : decode cc pc = .ok (.multianewarray idx 2, 4))
    (kk : ∀ (q : Nat) (H1 : Heap) (locs1 : List Loc), Wv D (Xz g) g (ws ++ (sf ++ rowL g q N M)) A H0 H1 locs1 s → W p l e R s m args below meth c H1 locs1 (cells + 1 + N) (slots + N + N * M) Q (F0 m (pc + 4) ls (.ref q :: rest))) : W p l e R s m args below meth c H locs cells slots Q (F0 m pc ls (.int (nI M) :: .int (nI N) :: rest)) := by
  obtain ⟨hK, hP, hD, hS, hA, hN, hx⟩ := hw
  obtain ⟨x1, x2, ⟨kA, x3, x4⟩, kC, ct, x5, x6⟩ := id hx
  have hA9 : s.vm.findClass "[[I" = some (wcII g) := by
    have h := (hK.2 3 (wcII g, .array .int) rfl).2
    have h2 : s.vm.findClass ("[" ++ (FieldType.array .int).toString) = some (wcII g) := h
    rw [show ("[" ++ (FieldType.array .int).toString) = "[[I" from by decide +kernel] at h2
    exact h2
  refine W_multiG hc.1 hc.2.1 hc.2.2.2.1 (hc.2.2.2.2 _ h1) hA9 x3 x4 x5 x6 rfl hdg hN9 hM9 rfl hce hsl (fun H1 locs1 z1 z2 z3 z4 z5 => ?_)
  have hsub : ∀ (k : Nat) (q : Nat × va_E), (ws ++ sf)[k]? = some q → H1[q.1]? = H[q.1]? := fun k q hk => z4 q.1 ((hP k q hk).lt)
  have hL : ∀ (k : Nat) (q : Nat × va_E), (rowL g H.size N M)[k]? = some q → q.1 = H.size + k ∧ va_at D classes q H1 := by
    intro k q hk
    cases k with
    | zero =>
      cases hk
      refine ⟨rfl, ?_⟩
      show H1[H.size]? = some (vp_cell (wcII g) (N, .inr (.inr (.inr (.inr (fun i => if i < N then some (H.size + 1 + i) else none))))))
      rw [z2, vp_cell_q]
      congr 1
      unfold arrV
      congr 2
      funext j
      show _ = va_rf (if j.val < N then _ else _)
      rw [if_pos j.isLt]
      rfl
    | succ k =>
      have hk2 : ((List.range N).map (fun i => (H.size + 1 + i, eI g M (fun _ => 0))))[k]? = some q := hk
      rw [List.getElem?_map] at hk2
      have hlt : k < N := by
        rcases Nat.lt_or_ge k N with h | h
        · exact h
        · rw [List.getElem?_eq_none (by rw [List.length_range]; exact h)] at hk2; cases hk2
      rw [List.getElem?_range hlt] at hk2
      cases hk2
      refine ⟨by show H.size + 1 + k = H.size + (k + 1); omega, ?_⟩
      show H1[H.size + 1 + k]? = some (vp_cell _ _)
      rw [z3 k hlt]
      rfl
  have hP1 : va_P D classes ((ws ++ sf) ++ rowL g H.size N M) H1 := (hP.kept hsub).app (fun k q hk => (hL k q hk).2)
  have hD1 : va_D A ((ws ++ sf) ++ rowL g H.size N M) := by
    refine va_D.app hD ⟨fun i j x9 y9 hi hj hxy => ?_, fun k q hk => ?_⟩ (fun i j x9 y9 hi hj hxy => ?_)
    · have e1 := (hL i x9 hi).1
      have e2 := (hL j y9 hj).1
      omega
    · rw [(hL k q hk).1]; exact hA _ (Nat.le_trans hS.1 (Nat.le_add_right _ _))
    · have e1 := (hP i x9 hi).lt
      have e2 := (hL j y9 hj).1
      omega
  refine kk H.size H1 locs1 ?_
  rw [← List.append_assoc]
  exact ⟨hK, hP1, hD1, ⟨Nat.le_trans hS.1 (by omega), fun q h1 h2 => (z4 q (Nat.lt_of_lt_of_le h1 hS.1)).trans (hS.2.1 q h1 h2), fun x9 hx9 => by
    rcases z5 x9 hx9 with h | h
    · exact hS.2.2 x9 h
    · rw [h]; exact hA _ hS.1⟩, hA, hN, hx⟩
end VS
