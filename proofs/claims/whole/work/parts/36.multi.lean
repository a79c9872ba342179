/-! arrays of arrays of int: a row -/
section MA
variable {E : CtlPost} {e : Env} {d : Bool} {acts : List Action} {s : State}
theorem ma_one {ct comp : ClassId} {k : Class} {ty : FieldType} {len : Nat} {v0 : Value} (hk : s.vm.classes[ct]? = some k) (hkind : k.kind = .array comp ty) (h1 : len ≤ e.platform.arrayLengthLimit) (h2 : len * componentBytes ty ≤ e.platform.maxHeapBytes) (hf : fits ty v0 = true) (hv : v0.isDefault = true)
    (h3 : s.heap.size < e.platform.maxCells) (h4 : s.slotsUsed + len ≤ e.platform.maxSlots) {Q : Addr → Pre} (hq : Q s.heap.size d acts (s.pushCell (arrV ct len (fun _ => v0)))) : wp (Jvm.newArray ct len v0) Q E e d acts s := by
  have g1 : ¬ len > e.platform.arrayLengthLimit := Nat.not_lt.mpr h1
  have g2 : ¬ len * componentBytes ty > e.platform.maxHeapBytes := Nat.not_lt.mpr h2
  have g3 : allocActs (Array.replicate len v0) s.heap.size acts = acts := by
    unfold allocActs
    refine if_pos ?_
    rw [Array.all_replicate]
    split <;> simp [hv]
  simp only [Jvm.newArray, Jvm.arrayFits, wp_bind', W.ask, W.ite, g1, if_false, wp_pure', W.theClass, hk, hkind, g2, W.alloc, W.stop, Option.some.injEq, exists_eq_left', Array.size_replicate, g3]
  rw [if_neg (by omega)]
  refine ⟨h3, h4, fun i v hi => ?_, ?_⟩
  · rw [Array.getElem?_replicate] at hi
    split at hi
    · cases hi; simp [State.fitsSlot, State.slotType?, hk, hkind, hf]
    · cases hi
  · rw [arrV_new]; exact hq
end MA
section MB
variable {p : Program} {l : Launch} {e : Env} {R : Room} {s : State} {m : MethodId} {args : Array Value} {below : List Frame} {meth : Method} {c : Code} {H : Heap} {locs : List Loc} {cells slots : Nat} {Q : State → Prop}
/-- where the making of the rows stands: i of them are made -/
def ma_I (p : Program) (l : Launch) (e : Env) (R : Room) (s : State) (m : MethodId) (args : Array Value) (below : List Frame) (meth : Method) (c : Code) (H : Heap) (locs : List Loc) (cells slots : Nat) (vm1 : Vm) (cA comp : ClassId) (N M i : Nat) (U : State) : Prop :=
  U.vm = vm1 ∧ U.heap.size = H.size + 1 + i ∧ U.heap[H.size]? = some (arrV cA N (fun j => if j < i then .ref (H.size + 1 + j) else .null)) ∧ (∀ j, j < i → U.heap[H.size + 1 + j]? = some (arrV comp M (fun _ => .int 0))) ∧ (∀ q, q < H.size → U.heap[q]? = H[q]?) ∧
  ∃ locs1 : List Loc, (∀ x ∈ locs1, x ∈ locs ∨ x.base = H.size) ∧ Stand p l e R s m args below meth c U locs1 (cells + 1 + i) (slots + N + i * M)
theorem ma_step {vm1 : Vm} {cA comp : ClassId} {N M i : Nat} {U : State} (h : ma_I p l e R s m args below meth c H locs cells slots vm1 cA comp N M i U) :
    ma_I p l e R s m args below meth c H locs cells slots vm1 cA comp N M (i + 1) ((U.pushCell (arrV comp M (fun _ => .int 0))).setCell H.size ((arrV cA N (fun j => if j < i then .ref (H.size + 1 + j) else .null)).setSlot i (.ref (H.size + 1 + i)))) := by
  obtain ⟨h1, h2, h3, h4, h5, locs1, h6, X⟩ := h
  have hlt : H.size < U.heap.size := by omega
  have hc0 : (U.pushCell (arrV comp M (fun _ => .int 0))).heap[H.size]? = some (arrV cA N (fun j => if j < i then .ref (H.size + 1 + j) else .null)) := by rw [State.heap_pushCell_of_lt (h := hlt)]; exact h3
  have hlt2 : H.size < (U.pushCell (arrV comp M (fun _ => .int 0))).heap.size := (Array.getElem?_eq_some_iff.mp hc0).1
  have X2 := (X.pushed (arrV comp M (fun _ => .int 0))).stored hc0 i (.ref (H.size + 1 + i))
  rw [arrV_size] at X2
  refine ⟨h1, ?_, ?_, fun j hj => ?_, fun q hq => ?_, _, fun x hx => ?_, (show slots + N + i * M + M = slots + N + (i + 1) * M by rw [Nat.succ_mul]; omega) ▸ X2⟩
  · rw [size_setCell, size_pushCell, h2]; omega
  · rw [heapAt_setCell_self _ hlt2, arrV_store]
    congr 2
    funext j
    show (if j = i then _ else _) = _
    by_cases e : j = i
    · rw [if_pos e, if_pos (by omega), e]
    · rw [if_neg e]
      show (if j < i then _ else _) = _
      by_cases e2 : j < i
      · rw [if_pos e2, if_pos (by omega)]
      · rw [if_neg e2, if_neg (by omega)]
  · rw [heapAt_setCell_ne _ (show H.size ≠ H.size + 1 + j by omega)]
    rcases (show j < i ∨ j = i by omega) with e | e
    · rw [State.heap_pushCell_of_lt (h := (show H.size + 1 + j < U.heap.size by omega))]; exact h4 j e
    · rw [e, ← h2]; exact State.heap_pushCell_size _ _
  · rw [heapAt_setCell_ne _ (show H.size ≠ q by omega), State.heap_pushCell_of_lt (h := (show q < U.heap.size by omega))]; exact h5 q hq
  · rcases List.mem_append.mp hx with h | h
    · exact h6 x h
    · rw [List.mem_singleton.mp h]; exact Or.inr rfl
/-- the machine while the rows are made -/
def ma_U (U0 : State) (h0 : Nat) (cA comp : ClassId) (N M : Nat) : Nat → State
  | 0 => U0
  | i + 1 => ((ma_U U0 h0 cA comp N M i).pushCell (arrV comp M (fun _ => .int 0))).setCell h0 ((arrV cA N (fun j => if j < i then .ref (h0 + 1 + j) else .null)).setSlot i (.ref (h0 + 1 + i)))
theorem W_multiG {cc : ByteArray} (hexec : p.tables.exec = Jvm.exec) (hb : c.code = cc) {own : String} {index : Nat} (hown : s.vm.findClass own = some m.cls) (hclink : (Cond.classLink own index "[[I").before args s = true) {cA comp cI : ClassId} {kA kC : Class} (hA : s.vm.findClass "[[I" = some cA) (hkA : s.vm.classes[cA]? = some kA) (hkindA : kA.kind = .array comp (.array .int)) (hkC : s.vm.classes[comp]? = some kC) (hkindC : kC.kind = .array cI .int)
    {g : JFrame} (hg : g.method = m) (hdg : decode cc g.pc = .ok (.multianewarray index 2, 4)) {N M : Nat} (hN : N ≤ 100) (hM : M ≤ 1000) {rest : List Value} (hstack : g.stack = .int (nI M) :: .int (nI N) :: rest) (hcells : cells + (1 + N) ≤ R.cells) (hslots : slots + (N + N * M) ≤ R.slots)
    (kk : ∀ (H1 : Heap) (locs1 : List Loc), H1.size = H.size + 1 + N → H1[H.size]? = some (arrV cA N (fun j => .ref (H.size + 1 + j))) → (∀ j, j < N → H1[H.size + 1 + j]? = some (arrV comp M (fun _ => .int 0))) → (∀ q, q < H.size → H1[q]? = H[q]?) → (∀ x ∈ locs1, x ∈ locs ∨ x.base = H.size) →
      W p l e R s m args below meth c H1 locs1 (cells + 1 + N) (slots + N + N * M) Q { g with pc := g.pc + 4, stack := .ref H.size :: rest }) : W p l e R s m args below meth c H locs cells slots Q g := by
  intro T hT X
  subst hT; subst hb; subst hg
  have hpl : e.platform.magicAccessors = ({} : Platform).magicAccessors := by rw [X.admits.platform]
  obtain ⟨c0, hc0, hcl⟩ := Cond.classLink_spec hown hclink e.platform hpl
  cases hA.symm.trans hc0
  obtain ⟨hg1, hw1, hr1⟩ := State.classEntry (e := e) X.warmed hcl
  generalize T.vm.noted g.method.cls index (.cls cA) = vm1 at hg1 hw1 hr1
  have hal : s.vm.Alike vm1 := hw1.alike
  obtain ⟨kA1, hkA1, heA⟩ := hal.2.2 _ _ hkA
  obtain ⟨kC1, hkC1, heC⟩ := hal.2.2 _ _ hkC
  have hkA2 : kA1.kind = .array comp (.array .int) := by rw [heA]; exact hkindA
  have hkC2 : kC1.kind = .array cI .int := by rw [heC]; exact hkindC
  have X1 := X.noted hw1
  have hlim : N ≤ e.platform.arrayLengthLimit ∧ M ≤ e.platform.arrayLengthLimit := by rw [Launch.admits_arrayLengthLimit X.admits]; omega
  have hby : N * 4 ≤ e.platform.maxHeapBytes ∧ M * 4 ≤ e.platform.maxHeapBytes := by rw [Launch.admits_maxHeapBytes X.admits]; omega
  have hcN : (nI N).toNatClampNeg = N := nI_clamp (by omega)
  have hcM : (nI M).toNatClampNeg = M := nI_clamp (by omega)
  have hnN : ¬ nI N < 0 := nI_pos (by omega)
  have hnM : ¬ nI M < 0 := nI_pos (by omega)
  obtain ⟨hr2, hr3⟩ := X.roomAbove hcells hslots
  have h0 : ma_I p l e R s g.method args below meth c T.heap locs cells slots vm1 cA comp N M 0 ((T.setVm vm1).pushCell (arrV cA N (fun _ => .null))) := by
    have X2 := X1.pushed (arrV cA N (fun _ => .null))
    rw [arrV_size] at X2
    refine ⟨rfl, size_pushCell _ _, ?_, fun j hj => absurd hj (Nat.not_lt_zero _), fun q hq => ?_, locs, fun x hx => Or.inl hx, ?_⟩
    · refine (State.heap_pushCell_size (T.setVm vm1) _).trans ?_
      congr 2
    · exact State.heap_pushCell_of_lt (T.setVm vm1) _ hq
    · rw [Nat.zero_mul]; exact X2
  have hend : ∀ U, ma_I p l e R s g.method args below meth c T.heap locs cells slots vm1 cA comp N M N U → ∃ t, Steps p.tables e below (U.setTop { g with pc := g.pc + 4, stack := .ref T.heap.size :: rest }) t ∧ Q t := by
    intro U hU
    obtain ⟨a1, a2, a3, a4, a5, locs1, a6, XU⟩ := hU
    have a3' : U.heap[T.heap.size]? = some (arrV cA N (fun j => .ref (T.heap.size + 1 + j))) := by
      rw [a3]
      congr 1
      unfold arrV
      congr 2
      funext j
      exact if_pos j.isLt
    exact kk U.heap locs1 a2 a3' a4 a5 a6 U rfl XU
  have hall : ∀ i, ma_I p l e R s g.method args below meth c T.heap locs cells slots vm1 cA comp N M i (ma_U ((T.setVm vm1).pushCell (arrV cA N (fun _ => .null))) T.heap.size cA comp N M i) := by
    intro i
    induction i with
    | zero => exact h0
    | succ i ih => exact ma_step ih
  obtain ⟨t, b1, b2⟩ := hend _ (hall N)
  refine ⟨t, ?_, b2⟩
  generalize hU0 : (T.setVm vm1).pushCell (arrV cA N (fun _ => .null)) = U0 at hall b1
  jvm_step X.here [hexec, hdg]
  simp only [multianewarray.sem, wp_bind', W.resolveClassAt_links (State.method?_setTop g X.here.top) hg1]
  rw [W.popN, if_neg (by decide)]
  refine ⟨g, State.topJava?_setTop' (s := T.setVm vm1) g X.here.top, [.int (nI N), .int (nI M)], rest, rfl, hstack, ?_⟩
  simp only [List.mapM_cons, List.mapM_nil, wp_bind', wp_pure']
  rw [multianewarray.make]
  simp only [wp_bind', W.ite, hnN, if_false, wp_pure', W.theClass]
  refine ⟨kA1, hkA1, ?_⟩
  simp only [hkA2, hcN]
  rw [wp_bind']
  rw [show ((T.setTop g).setVm vm1).setTop { g with stack := rest } = (T.setVm vm1).setTop { g with stack := rest } from by (show ((T.setVm vm1).setTop g).setTop _ = _; rw [State.setTop_setTop])]
  refine ma_one (k := kA1) (comp := comp) (ty := .array .int) (v0 := .null) hkA1 hkA2 hlim.1 hby.1 rfl rfl (by show T.heap.size < _; omega) (by show T.slotsUsed + N ≤ _; omega) ?_
  have hfind : ([nI M].find? (· < 0)) = none := by simp [hnM]
  simp only [hfind]
  rw [ite_self, wp_bind', Std.Legacy.Range.forIn_eq_forIn_range']
  rw [show ([:N] : Std.Legacy.Range).size = N from by simp [Std.Legacy.Range.size]]
  show wp (forIn (List.range' 0 N 1) PUnit.unit _) _ _ e _ _ _
  refine wp_forIn_inv (fun rs s9 => ∃ i, i ≤ N ∧ rs = List.range' i (N - i) ∧ s9 = (ma_U U0 T.heap.size cA comp N M i).setTop { g with stack := rest }) _ _ ⟨0, Nat.zero_le _, rfl, ?_⟩ ?_ ?_
  · rw [← hU0]; rfl
  · rintro x rs s9 d9 ac9 Q9 ⟨i, hi, hl, rfl⟩ hnext
    have hlt : i < N := by
      rcases Nat.lt_or_ge i N with h | h
      · exact h
      · rw [show N - i = 0 by omega] at hl; cases hl
    rw [show N - i = (N - (i + 1)) + 1 by omega, List.range'_succ] at hl
    obtain ⟨rfl, hrs⟩ := List.cons.inj hl
    obtain ⟨u1, u2', u3, u4, u5, locs1, u6, XU⟩ := hall x
    have hmul : x * M + M ≤ N * M := by
      have := Nat.mul_le_mul_right M (show x + 1 ≤ N from hlt)
      rw [Nat.succ_mul] at this
      exact this
    obtain ⟨v1, v2⟩ := XU.roomAbove (a := 1) (b := M) (by omega) (by omega)
    rw [wp_bind', multianewarray.make]
    simp only [wp_bind', W.ite, hnM, if_false, wp_pure', W.theClass]
    refine ⟨kC1, (congrArg (fun v => v.classes[comp]?) u1).trans hkC1, ?_⟩
    simp only [hkC2, hcM]
    refine ma_one (k := kC1) (comp := cI) (ty := .int) (v0 := defaultValue .int) ((congrArg (fun v => v.classes[comp]?) u1).trans hkC1) hkC2 hlim.2 hby.2 rfl rfl (by show (ma_U U0 T.heap.size cA comp N M x).heap.size < _; omega) (by show (ma_U U0 T.heap.size cA comp N M x).slotsUsed + M ≤ _; omega) ?_
    simp only [wp_bind', W.writeLoc, wp_pure']
    refine ⟨arrV cA N (fun j => if j < x then .ref (T.heap.size + 1 + j) else .null), ?_, ?_, ?_, ?_, hnext _ _ _ ⟨x + 1, hlt, hrs, ?_⟩⟩
    · exact (State.heap_pushCell_of_lt (ma_U U0 T.heap.size cA comp N M x) _ (show T.heap.size < _ by omega)).trans u3
    · exact fun h => by cases h
    · rw [arrV_size]; exact hlt
    · have hk9 : (ma_U U0 T.heap.size cA comp N M x).vm.classes[cA]? = some kA1 := (congrArg (fun v => v.classes[cA]?) u1).trans hkA1
      simp [State.fitsSlot, State.slotType?, arrV, hk9, hkA2, fits]
    · rw [show ((ma_U U0 T.heap.size cA comp N M x).setTop { g with stack := rest }).heap.size = T.heap.size + 1 + x from u2']
      rfl
  · rintro s9 d9 ac9 ⟨i, hi, hl, rfl⟩
    have hiN : i = N := by
      rcases Nat.lt_or_ge i N with h | h
      · rw [show N - i = (N - (i + 1)) + 1 by omega, List.range'_succ] at hl; cases hl
      · omega
    subst hiN
    simp only [wp_pure', wp_bind', W.mark, W.pushRef, State.topJava?_setTop' _ (hall i).2.2.2.2.2.choose_spec.2.here.top, Option.some.injEq, exists_eq_left', State.setTop_setTop]
    intro acts
    have htop := (hall i).2.2.2.2.2.choose_spec.2.here.top
    simp [jvm, htop]
    exact b1
end MB
