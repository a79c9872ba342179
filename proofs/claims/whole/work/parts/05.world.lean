/-! THE WORLD: one list of cells, by handles 0, 1, .. in the order in which they are made; all numbers of all cells in one function F (handle, place) -/
abbrev wF : Type := Nat → Nat → Int32
/-- addresses of the handles; the classes of int[], Row[], Writer[], int[][]; the persons' kinds; how many person objects there are -/
abbrev wG : Type := (Nat → Nat) × (ClassId × ClassId × ClassId × ClassId) × (Nat → Nat) × Nat
def wad (g : wG) (k : Nat) : Nat := g.1 k
def wcI (g : wG) : ClassId := g.2.1.1
def wcR (g : wG) : ClassId := g.2.1.2.1
def wcW (g : wG) : ClassId := g.2.1.2.2.1
def wcII (g : wG) : ClassId := g.2.1.2.2.2
def wK (g : wG) (p : Nat) : Nat := g.2.2.1 p
def wm (g : wG) : Nat := g.2.2.2
def u2 (F : wF) (h i : Nat) (x : Int32) : wF := fun a b => if a = h ∧ b = i then x else F a b
-- fields of the classes, in the tables' order
def F_RW : u_T := fun k => match k with
  | 0 => ("AnswerPost$Row", "cells", "[I", true)
  | 1 => ("AnswerPost$Row", "lane", "I", false)
  | _ => ("AnswerPost$Row", "size", "I", false)
def t_RW : Nat → FieldType := fun k => match k with
  | 0 => .array .int
  | 1 => .int
  | _ => .int
theorem n_RW : ∀ a, a < 3 → ∀ b, b < 3 → a ≠ b → (F_RW a).2.1 ≠ (F_RW b).2.1 := by decide +kernel
theorem t_RW_ok : ∀ k, k < 3 → parseFieldDescriptor (F_RW k).2.2.1 = some (t_RW k) := by decide +kernel
theorem i_RW : ∀ w ∈ u_ws R_RW F_RW 3, w ∈ gws := by
  have e : u_ws R_RW F_RW 3 = [(Jvm.Cond.laysFinal "AnswerPost$Row" "AnswerPost$Row" "cells" "[I"), (Jvm.Cond.lays "AnswerPost$Row" "AnswerPost$Row" "lane" "I"), (Jvm.Cond.lays "AnswerPost$Row" "AnswerPost$Row" "size" "I")] := rfl
  rw [e]
  exact List.forall_mem_cons.mpr ⟨g_35, List.forall_mem_cons.mpr ⟨g_37, List.forall_mem_cons.mpr ⟨g_39, fun _ h => absurd h List.not_mem_nil⟩⟩⟩
def F_LE : u_T := fun k => match k with
  | 0 => ("AnswerPost$Letters", "from", "[I", true)
  | 1 => ("AnswerPost$Letters", "to", "[I", true)
  | 2 => ("AnswerPost$Letters", "weight", "[I", true)
  | 3 => ("AnswerPost$Letters", "day", "[I", true)
  | 4 => ("AnswerPost$Letters", "shown", "[I", true)
  | 5 => ("AnswerPost$Letters", "answer", "[I", true)
  | 6 => ("AnswerPost$Letters", "answered", "[I", true)
  | _ => ("AnswerPost$Letters", "count", "I", false)
def t_LE : Nat → FieldType := fun k => match k with
  | 0 => .array .int
  | 1 => .array .int
  | 2 => .array .int
  | 3 => .array .int
  | 4 => .array .int
  | 5 => .array .int
  | 6 => .array .int
  | _ => .int
theorem n_LE : ∀ a, a < 8 → ∀ b, b < 8 → a ≠ b → (F_LE a).2.1 ≠ (F_LE b).2.1 := by decide +kernel
theorem t_LE_ok : ∀ k, k < 8 → parseFieldDescriptor (F_LE k).2.2.1 = some (t_LE k) := by decide +kernel
theorem i_LE : ∀ w ∈ u_ws R_LE F_LE 8, w ∈ gws := by
  have e : u_ws R_LE F_LE 8 = [(Jvm.Cond.laysFinal "AnswerPost$Letters" "AnswerPost$Letters" "from" "[I"), (Jvm.Cond.laysFinal "AnswerPost$Letters" "AnswerPost$Letters" "to" "[I"), (Jvm.Cond.laysFinal "AnswerPost$Letters" "AnswerPost$Letters" "weight" "[I"), (Jvm.Cond.laysFinal "AnswerPost$Letters" "AnswerPost$Letters" "day" "[I"), (Jvm.Cond.laysFinal "AnswerPost$Letters" "AnswerPost$Letters" "shown" "[I"), (Jvm.Cond.laysFinal "AnswerPost$Letters" "AnswerPost$Letters" "answer" "[I"), (Jvm.Cond.laysFinal "AnswerPost$Letters" "AnswerPost$Letters" "answered" "[I"), (Jvm.Cond.lays "AnswerPost$Letters" "AnswerPost$Letters" "count" "I")] := rfl
  rw [e]
  exact List.forall_mem_cons.mpr ⟨g_67, List.forall_mem_cons.mpr ⟨g_69, List.forall_mem_cons.mpr ⟨g_71, List.forall_mem_cons.mpr ⟨g_73, List.forall_mem_cons.mpr ⟨g_75, List.forall_mem_cons.mpr ⟨g_77, List.forall_mem_cons.mpr ⟨g_79, List.forall_mem_cons.mpr ⟨g_81, fun _ h => absurd h List.not_mem_nil⟩⟩⟩⟩⟩⟩⟩⟩
def F_SE : u_T := fun k => match k with
  | 0 => ("AnswerPost$Settling", "nets", "[I", true)
  | 1 => ("AnswerPost$Settling", "sums", "[I", true)
  | 2 => ("AnswerPost$Settling", "groups", "[I", true)
  | _ => ("AnswerPost$Settling", "count", "I", false)
def t_SE : Nat → FieldType := fun k => match k with
  | 0 => .array .int
  | 1 => .array .int
  | 2 => .array .int
  | _ => .int
theorem n_SE : ∀ a, a < 4 → ∀ b, b < 4 → a ≠ b → (F_SE a).2.1 ≠ (F_SE b).2.1 := by decide +kernel
theorem t_SE_ok : ∀ k, k < 4 → parseFieldDescriptor (F_SE k).2.2.1 = some (t_SE k) := by decide +kernel
theorem i_SE : ∀ w ∈ u_ws R_SE F_SE 4, w ∈ gws := by
  have e : u_ws R_SE F_SE 4 = [(Jvm.Cond.laysFinal "AnswerPost$Settling" "AnswerPost$Settling" "nets" "[I"), (Jvm.Cond.laysFinal "AnswerPost$Settling" "AnswerPost$Settling" "sums" "[I"), (Jvm.Cond.laysFinal "AnswerPost$Settling" "AnswerPost$Settling" "groups" "[I"), (Jvm.Cond.lays "AnswerPost$Settling" "AnswerPost$Settling" "count" "I")] := rfl
  rw [e]
  exact List.forall_mem_cons.mpr ⟨g_94, List.forall_mem_cons.mpr ⟨g_96, List.forall_mem_cons.mpr ⟨g_98, List.forall_mem_cons.mpr ⟨g_100, fun _ h => absurd h List.not_mem_nil⟩⟩⟩⟩
def F_TU : u_T := fun k => match k with
  | 0 => ("AnswerPost$Turns", "chosen", "[[I", true)
  | 1 => ("AnswerPost$Turns", "inTurn", "[[I", true)
  | 2 => ("AnswerPost$Turns", "waiting", "[[I", true)
  | 3 => ("AnswerPost$Turns", "shown", "[[I", true)
  | 4 => ("AnswerPost$Turns", "lift", "[I", true)
  | 5 => ("AnswerPost$Turns", "weights", "[I", true)
  | 6 => ("AnswerPost$Turns", "fine", "I", false)
  | 7 => ("AnswerPost$Turns", "law", "I", false)
  | 8 => ("AnswerPost$Turns", "written", "I", false)
  | 9 => ("AnswerPost$Turns", "costOfFirst", "I", false)
  | _ => ("AnswerPost$Turns", "costOfOther", "I", false)
def t_TU : Nat → FieldType := fun k => match k with
  | 0 => .array (.array .int)
  | 1 => .array (.array .int)
  | 2 => .array (.array .int)
  | 3 => .array (.array .int)
  | 4 => .array .int
  | 5 => .array .int
  | 6 => .int
  | 7 => .int
  | 8 => .int
  | 9 => .int
  | _ => .int
theorem n_TU : ∀ a, a < 11 → ∀ b, b < 11 → a ≠ b → (F_TU a).2.1 ≠ (F_TU b).2.1 := by decide +kernel
theorem t_TU_ok : ∀ k, k < 11 → parseFieldDescriptor (F_TU k).2.2.1 = some (t_TU k) := by decide +kernel
theorem i_TU : ∀ w ∈ u_ws R_TU F_TU 11, w ∈ gws := by
  have e : u_ws R_TU F_TU 11 = [(Jvm.Cond.laysFinal "AnswerPost$Turns" "AnswerPost$Turns" "chosen" "[[I"), (Jvm.Cond.laysFinal "AnswerPost$Turns" "AnswerPost$Turns" "inTurn" "[[I"), (Jvm.Cond.laysFinal "AnswerPost$Turns" "AnswerPost$Turns" "waiting" "[[I"), (Jvm.Cond.laysFinal "AnswerPost$Turns" "AnswerPost$Turns" "shown" "[[I"), (Jvm.Cond.laysFinal "AnswerPost$Turns" "AnswerPost$Turns" "lift" "[I"), (Jvm.Cond.laysFinal "AnswerPost$Turns" "AnswerPost$Turns" "weights" "[I"), (Jvm.Cond.lays "AnswerPost$Turns" "AnswerPost$Turns" "fine" "I"), (Jvm.Cond.lays "AnswerPost$Turns" "AnswerPost$Turns" "law" "I"), (Jvm.Cond.lays "AnswerPost$Turns" "AnswerPost$Turns" "written" "I"), (Jvm.Cond.lays "AnswerPost$Turns" "AnswerPost$Turns" "costOfFirst" "I"), (Jvm.Cond.lays "AnswerPost$Turns" "AnswerPost$Turns" "costOfOther" "I")] := rfl
  rw [e]
  exact List.forall_mem_cons.mpr ⟨g_126, List.forall_mem_cons.mpr ⟨g_128, List.forall_mem_cons.mpr ⟨g_130, List.forall_mem_cons.mpr ⟨g_132, List.forall_mem_cons.mpr ⟨g_134, List.forall_mem_cons.mpr ⟨g_136, List.forall_mem_cons.mpr ⟨g_138, List.forall_mem_cons.mpr ⟨g_140, List.forall_mem_cons.mpr ⟨g_142, List.forall_mem_cons.mpr ⟨g_144, List.forall_mem_cons.mpr ⟨g_146, fun _ h => absurd h List.not_mem_nil⟩⟩⟩⟩⟩⟩⟩⟩⟩⟩⟩
def F_PA : u_T := fun k => match k with
  | 0 => ("AnswerPost$Parts", "chosen", "[[I", true)
  | 1 => ("AnswerPost$Parts", "least", "[[I", true)
  | 2 => ("AnswerPost$Parts", "price", "[I", true)
  | 3 => ("AnswerPost$Parts", "weights", "[I", true)
  | _ => ("AnswerPost$Parts", "sum", "I", false)
def t_PA : Nat → FieldType := fun k => match k with
  | 0 => .array (.array .int)
  | 1 => .array (.array .int)
  | 2 => .array .int
  | 3 => .array .int
  | _ => .int
theorem n_PA : ∀ a, a < 5 → ∀ b, b < 5 → a ≠ b → (F_PA a).2.1 ≠ (F_PA b).2.1 := by decide +kernel
theorem t_PA_ok : ∀ k, k < 5 → parseFieldDescriptor (F_PA k).2.2.1 = some (t_PA k) := by decide +kernel
theorem i_PA : ∀ w ∈ u_ws R_PA F_PA 5, w ∈ gws := by
  have e : u_ws R_PA F_PA 5 = [(Jvm.Cond.laysFinal "AnswerPost$Parts" "AnswerPost$Parts" "chosen" "[[I"), (Jvm.Cond.laysFinal "AnswerPost$Parts" "AnswerPost$Parts" "least" "[[I"), (Jvm.Cond.laysFinal "AnswerPost$Parts" "AnswerPost$Parts" "price" "[I"), (Jvm.Cond.laysFinal "AnswerPost$Parts" "AnswerPost$Parts" "weights" "[I"), (Jvm.Cond.lays "AnswerPost$Parts" "AnswerPost$Parts" "sum" "I")] := rfl
  rw [e]
  exact List.forall_mem_cons.mpr ⟨g_163, List.forall_mem_cons.mpr ⟨g_165, List.forall_mem_cons.mpr ⟨g_167, List.forall_mem_cons.mpr ⟨g_169, List.forall_mem_cons.mpr ⟨g_171, fun _ h => absurd h List.not_mem_nil⟩⟩⟩⟩⟩
def F_TR : u_T := fun k => match k with
  | _ => ("AnswerPost$Trail", "left", "I", false)
def t_TR : Nat → FieldType := fun k => match k with
  | _ => .int
theorem n_TR : ∀ a, a < 1 → ∀ b, b < 1 → a ≠ b → (F_TR a).2.1 ≠ (F_TR b).2.1 := by decide +kernel
theorem t_TR_ok : ∀ k, k < 1 → parseFieldDescriptor (F_TR k).2.2.1 = some (t_TR k) := by decide +kernel
theorem i_TR : ∀ w ∈ u_ws R_TR F_TR 1, w ∈ gws := by
  have e : u_ws R_TR F_TR 1 = [(Jvm.Cond.lays "AnswerPost$Trail" "AnswerPost$Trail" "left" "I")] := rfl
  rw [e]
  exact List.forall_mem_cons.mpr ⟨g_182, fun _ h => absurd h List.not_mem_nil⟩
def F_AP : u_T := fun k => match k with
  | 0 => ("AnswerPost", "sheets", "[LAnswerPost$Row;", true)
  | 1 => ("AnswerPost", "persons", "[LAnswerPost$Writer;", true)
  | 2 => ("AnswerPost", "letters", "LAnswerPost$Letters;", true)
  | 3 => ("AnswerPost", "settling", "LAnswerPost$Settling;", true)
  | 4 => ("AnswerPost", "turns", "LAnswerPost$Turns;", true)
  | 5 => ("AnswerPost", "parts", "LAnswerPost$Parts;", true)
  | 6 => ("AnswerPost", "trail", "LAnswerPost$Trail;", true)
  | 7 => ("AnswerPost", "personCount", "I", false)
  | 8 => ("AnswerPost", "lawNow", "I", false)
  | _ => ("AnswerPost", "lastFault", "I", false)
def t_AP : Nat → FieldType := fun k => match k with
  | 0 => .array (.object "AnswerPost$Row")
  | 1 => .array (.object "AnswerPost$Writer")
  | 2 => .object "AnswerPost$Letters"
  | 3 => .object "AnswerPost$Settling"
  | 4 => .object "AnswerPost$Turns"
  | 5 => .object "AnswerPost$Parts"
  | 6 => .object "AnswerPost$Trail"
  | 7 => .int
  | 8 => .int
  | _ => .int
theorem n_AP : ∀ a, a < 10 → ∀ b, b < 10 → a ≠ b → (F_AP a).2.1 ≠ (F_AP b).2.1 := by decide +kernel
theorem t_AP_ok : ∀ k, k < 10 → parseFieldDescriptor (F_AP k).2.2.1 = some (t_AP k) := by decide +kernel
theorem i_AP : ∀ w ∈ u_ws R_AP F_AP 10, w ∈ gws := by
  have e : u_ws R_AP F_AP 10 = [(Jvm.Cond.laysFinal "AnswerPost" "AnswerPost" "sheets" "[LAnswerPost$Row;"), (Jvm.Cond.laysFinal "AnswerPost" "AnswerPost" "persons" "[LAnswerPost$Writer;"), (Jvm.Cond.laysFinal "AnswerPost" "AnswerPost" "letters" "LAnswerPost$Letters;"), (Jvm.Cond.laysFinal "AnswerPost" "AnswerPost" "settling" "LAnswerPost$Settling;"), (Jvm.Cond.laysFinal "AnswerPost" "AnswerPost" "turns" "LAnswerPost$Turns;"), (Jvm.Cond.laysFinal "AnswerPost" "AnswerPost" "parts" "LAnswerPost$Parts;"), (Jvm.Cond.laysFinal "AnswerPost" "AnswerPost" "trail" "LAnswerPost$Trail;"), (Jvm.Cond.lays "AnswerPost" "AnswerPost" "personCount" "I"), (Jvm.Cond.lays "AnswerPost" "AnswerPost" "lawNow" "I"), (Jvm.Cond.lays "AnswerPost" "AnswerPost" "lastFault" "I")] := rfl
  rw [e]
  exact List.forall_mem_cons.mpr ⟨g_195, List.forall_mem_cons.mpr ⟨g_197, List.forall_mem_cons.mpr ⟨g_199, List.forall_mem_cons.mpr ⟨g_201, List.forall_mem_cons.mpr ⟨g_203, List.forall_mem_cons.mpr ⟨g_205, List.forall_mem_cons.mpr ⟨g_207, List.forall_mem_cons.mpr ⟨g_209, List.forall_mem_cons.mpr ⟨g_211, List.forall_mem_cons.mpr ⟨g_213, fun _ h => absurd h List.not_mem_nil⟩⟩⟩⟩⟩⟩⟩⟩⟩⟩
def F_MI : u_T := fun k => match k with
  | 0 => ("AnswerPost$Writer", "number", "I", true)
  | _ => ("AnswerPost$Writer", "lift", "I", true)
def t_MI : Nat → FieldType := fun k => match k with
  | 0 => .int
  | _ => .int
theorem n_MI : ∀ a, a < 2 → ∀ b, b < 2 → a ≠ b → (F_MI a).2.1 ≠ (F_MI b).2.1 := by decide +kernel
theorem t_MI_ok : ∀ k, k < 2 → parseFieldDescriptor (F_MI k).2.2.1 = some (t_MI k) := by decide +kernel
theorem i_MI : ∀ w ∈ u_ws R_MI F_MI 2, w ∈ gws := by
  have e : u_ws R_MI F_MI 2 = [(Jvm.Cond.laysFinal "AnswerPost$Miser" "AnswerPost$Writer" "number" "I"), (Jvm.Cond.laysFinal "AnswerPost$Miser" "AnswerPost$Writer" "lift" "I")] := rfl
  rw [e]
  exact List.forall_mem_cons.mpr ⟨g_284, List.forall_mem_cons.mpr ⟨g_286, fun _ h => absurd h List.not_mem_nil⟩⟩
def F_LA : u_T := fun k => match k with
  | 0 => ("AnswerPost$Writer", "number", "I", true)
  | _ => ("AnswerPost$Writer", "lift", "I", true)
def t_LA : Nat → FieldType := fun k => match k with
  | 0 => .int
  | _ => .int
theorem n_LA : ∀ a, a < 2 → ∀ b, b < 2 → a ≠ b → (F_LA a).2.1 ≠ (F_LA b).2.1 := by decide +kernel
theorem t_LA_ok : ∀ k, k < 2 → parseFieldDescriptor (F_LA k).2.2.1 = some (t_LA k) := by decide +kernel
theorem i_LA : ∀ w ∈ u_ws R_LA F_LA 2, w ∈ gws := by
  have e : u_ws R_LA F_LA 2 = [(Jvm.Cond.laysFinal "AnswerPost$Lawyer" "AnswerPost$Writer" "number" "I"), (Jvm.Cond.laysFinal "AnswerPost$Lawyer" "AnswerPost$Writer" "lift" "I")] := rfl
  rw [e]
  exact List.forall_mem_cons.mpr ⟨g_295, List.forall_mem_cons.mpr ⟨g_296, fun _ h => absurd h List.not_mem_nil⟩⟩
def F_WR : u_T := fun k => match k with
  | 0 => ("AnswerPost$Writer", "number", "I", true)
  | _ => ("AnswerPost$Writer", "lift", "I", true)
def t_WR : Nat → FieldType := fun k => match k with
  | 0 => .int
  | _ => .int
theorem n_WR : ∀ a, a < 2 → ∀ b, b < 2 → a ≠ b → (F_WR a).2.1 ≠ (F_WR b).2.1 := by decide +kernel
theorem t_WR_ok : ∀ k, k < 2 → parseFieldDescriptor (F_WR k).2.2.1 = some (t_WR k) := by decide +kernel
theorem i_WR : ∀ w ∈ u_ws R_WR F_WR 2, w ∈ gws := by
  have e : u_ws R_WR F_WR 2 = [(Jvm.Cond.laysFinal "AnswerPost$Writer" "AnswerPost$Writer" "number" "I"), (Jvm.Cond.laysFinal "AnswerPost$Writer" "AnswerPost$Writer" "lift" "I")] := rfl
  rw [e]
  exact List.forall_mem_cons.mpr ⟨g_300, List.forall_mem_cons.mpr ⟨g_301, fun _ h => absurd h List.not_mem_nil⟩⟩
def F_MO : u_T := fun k => match k with
  | 0 => ("AnswerPostModel", "fault", "I", false)
  | 1 => ("AnswerPostModel", "trace", "I", false)
  | 2 => ("AnswerPostModel", "sorts", "[I", true)
  | 3 => ("AnswerPostModel", "sheetLong", "[I", true)
  | 4 => ("AnswerPostModel", "cells", "[I", true)
  | 5 => ("AnswerPostModel", "persons", "I", false)
  | 6 => ("AnswerPostModel", "lawNow", "I", false)
  | 7 => ("AnswerPostModel", "kind", "[I", true)
  | 8 => ("AnswerPostModel", "lift", "[I", true)
  | 9 => ("AnswerPostModel", "at", "I", false)
  | 10 => ("AnswerPostModel", "readMany", "I", false)
  | 11 => ("AnswerPostModel", "readKind", "[I", true)
  | 12 => ("AnswerPostModel", "readLift", "[I", true)
  | 13 => ("AnswerPostModel", "letters", "I", false)
  | 14 => ("AnswerPostModel", "from", "[I", true)
  | 15 => ("AnswerPostModel", "to", "[I", true)
  | 16 => ("AnswerPostModel", "heavy", "[I", true)
  | 17 => ("AnswerPostModel", "dayOf", "[I", true)
  | 18 => ("AnswerPostModel", "answeredBy", "[I", true)
  | 19 => ("AnswerPostModel", "answers", "[I", true)
  | 20 => ("AnswerPostModel", "makes", "[I", true)
  | 21 => ("AnswerPostModel", "groups", "[I", true)
  | 22 => ("AnswerPostModel", "bestWeight", "I", false)
  | 23 => ("AnswerPostModel", "bestPays", "I", false)
  | 24 => ("AnswerPostModel", "own", "[I", true)
  | 25 => ("AnswerPostModel", "others", "[I", true)
  | 26 => ("AnswerPostModel", "writes", "[I", true)
  | 27 => ("AnswerPostModel", "leastOf", "[I", true)
  | _ => ("AnswerPostModel", "shown", "[I", true)
def t_MO : Nat → FieldType := fun k => match k with
  | 0 => .int
  | 1 => .int
  | 2 => .array .int
  | 3 => .array .int
  | 4 => .array .int
  | 5 => .int
  | 6 => .int
  | 7 => .array .int
  | 8 => .array .int
  | 9 => .int
  | 10 => .int
  | 11 => .array .int
  | 12 => .array .int
  | 13 => .int
  | 14 => .array .int
  | 15 => .array .int
  | 16 => .array .int
  | 17 => .array .int
  | 18 => .array .int
  | 19 => .array .int
  | 20 => .array .int
  | 21 => .array .int
  | 22 => .int
  | 23 => .int
  | 24 => .array .int
  | 25 => .array .int
  | 26 => .array .int
  | 27 => .array .int
  | _ => .array .int
theorem n_MO : ∀ a, a < 29 → ∀ b, b < 29 → a ≠ b → (F_MO a).2.1 ≠ (F_MO b).2.1 := by decide +kernel
theorem t_MO_ok : ∀ k, k < 29 → parseFieldDescriptor (F_MO k).2.2.1 = some (t_MO k) := by decide +kernel
theorem i_MO : ∀ w ∈ u_ws R_MO F_MO 29, w ∈ gws := by
  have e : u_ws R_MO F_MO 29 = [(Jvm.Cond.lays "AnswerPostModel" "AnswerPostModel" "fault" "I"), (Jvm.Cond.lays "AnswerPostModel" "AnswerPostModel" "trace" "I"), (Jvm.Cond.laysFinal "AnswerPostModel" "AnswerPostModel" "sorts" "[I"), (Jvm.Cond.laysFinal "AnswerPostModel" "AnswerPostModel" "sheetLong" "[I"), (Jvm.Cond.laysFinal "AnswerPostModel" "AnswerPostModel" "cells" "[I"), (Jvm.Cond.lays "AnswerPostModel" "AnswerPostModel" "persons" "I"), (Jvm.Cond.lays "AnswerPostModel" "AnswerPostModel" "lawNow" "I"), (Jvm.Cond.laysFinal "AnswerPostModel" "AnswerPostModel" "kind" "[I"), (Jvm.Cond.laysFinal "AnswerPostModel" "AnswerPostModel" "lift" "[I"), (Jvm.Cond.lays "AnswerPostModel" "AnswerPostModel" "at" "I"), (Jvm.Cond.lays "AnswerPostModel" "AnswerPostModel" "readMany" "I"), (Jvm.Cond.laysFinal "AnswerPostModel" "AnswerPostModel" "readKind" "[I"), (Jvm.Cond.laysFinal "AnswerPostModel" "AnswerPostModel" "readLift" "[I"), (Jvm.Cond.lays "AnswerPostModel" "AnswerPostModel" "letters" "I"), (Jvm.Cond.laysFinal "AnswerPostModel" "AnswerPostModel" "from" "[I"), (Jvm.Cond.laysFinal "AnswerPostModel" "AnswerPostModel" "to" "[I"), (Jvm.Cond.laysFinal "AnswerPostModel" "AnswerPostModel" "heavy" "[I"), (Jvm.Cond.laysFinal "AnswerPostModel" "AnswerPostModel" "dayOf" "[I"), (Jvm.Cond.laysFinal "AnswerPostModel" "AnswerPostModel" "answeredBy" "[I"), (Jvm.Cond.laysFinal "AnswerPostModel" "AnswerPostModel" "answers" "[I"), (Jvm.Cond.laysFinal "AnswerPostModel" "AnswerPostModel" "makes" "[I"), (Jvm.Cond.laysFinal "AnswerPostModel" "AnswerPostModel" "groups" "[I"), (Jvm.Cond.lays "AnswerPostModel" "AnswerPostModel" "bestWeight" "I"), (Jvm.Cond.lays "AnswerPostModel" "AnswerPostModel" "bestPays" "I"), (Jvm.Cond.laysFinal "AnswerPostModel" "AnswerPostModel" "own" "[I"), (Jvm.Cond.laysFinal "AnswerPostModel" "AnswerPostModel" "others" "[I"), (Jvm.Cond.laysFinal "AnswerPostModel" "AnswerPostModel" "writes" "[I"), (Jvm.Cond.laysFinal "AnswerPostModel" "AnswerPostModel" "leastOf" "[I"), (Jvm.Cond.laysFinal "AnswerPostModel" "AnswerPostModel" "shown" "[I")] := rfl
  rw [e]
  exact List.forall_mem_cons.mpr ⟨g_643, List.forall_mem_cons.mpr ⟨g_645, List.forall_mem_cons.mpr ⟨g_647, List.forall_mem_cons.mpr ⟨g_649, List.forall_mem_cons.mpr ⟨g_651, List.forall_mem_cons.mpr ⟨g_653, List.forall_mem_cons.mpr ⟨g_655, List.forall_mem_cons.mpr ⟨g_657, List.forall_mem_cons.mpr ⟨g_659, List.forall_mem_cons.mpr ⟨g_661, List.forall_mem_cons.mpr ⟨g_663, List.forall_mem_cons.mpr ⟨g_665, List.forall_mem_cons.mpr ⟨g_667, List.forall_mem_cons.mpr ⟨g_669, List.forall_mem_cons.mpr ⟨g_671, List.forall_mem_cons.mpr ⟨g_673, List.forall_mem_cons.mpr ⟨g_675, List.forall_mem_cons.mpr ⟨g_677, List.forall_mem_cons.mpr ⟨g_679, List.forall_mem_cons.mpr ⟨g_681, List.forall_mem_cons.mpr ⟨g_683, List.forall_mem_cons.mpr ⟨g_685, List.forall_mem_cons.mpr ⟨g_687, List.forall_mem_cons.mpr ⟨g_689, List.forall_mem_cons.mpr ⟨g_691, List.forall_mem_cons.mpr ⟨g_693, List.forall_mem_cons.mpr ⟨g_695, List.forall_mem_cons.mpr ⟨g_697, List.forall_mem_cons.mpr ⟨g_699, fun _ h => absurd h List.not_mem_nil⟩⟩⟩⟩⟩⟩⟩⟩⟩⟩⟩⟩⟩⟩⟩⟩⟩⟩⟩⟩⟩⟩⟩⟩⟩⟩⟩⟩⟩
abbrev classes : List vw_C := [(R_AP, F_AP, 10), (R_RW, F_RW, 3), (R_LE, F_LE, 8), (R_SE, F_SE, 4), (R_TU, F_TU, 11), (R_PA, F_PA, 5), (R_TR, F_TR, 1), (R_WR, F_WR, 2), (R_MI, F_MI, 2), (R_LA, F_LA, 2), (R_MO, F_MO, 29)]
def wtys (g : wG) : List (ClassId × FieldType) := [(wcI g, .int), (wcR g, .object R_RW), (wcW g, .object R_WR), (wcII g, .array .int)]
-- what stands in each handle, its numbers f given
def eI (g : wG) (n : Nat) (f : Nat → Int32) : va_E := .inl (wcI g, n, .inl f)
def eQ (c : ClassId) (n : Nat) (r : Nat → Option Nat) : va_E := .inl (c, n, .inr (.inr (.inr (.inr r))))
def eAP (g : wG) (f : Nat → Int32) : va_E := .inr (0, [.ref (wad g 1), .ref (wad g 10), .ref (wad g 11), .ref (wad g 19), .ref (wad g 23), .ref (wad g 44), .ref (wad g 57), .int (f 7), .int (f 8), .int (f 9)])
def eRW (g : wG) (k : Nat) (f : Nat → Int32) : va_E := .inr (1, [.ref (wad g (2 * k + 3)), .int (f 1), .int (f 2)])
def eLE (g : wG) (f : Nat → Int32) : va_E := .inr (2, [.ref (wad g 12), .ref (wad g 13), .ref (wad g 14), .ref (wad g 15), .ref (wad g 16), .ref (wad g 17), .ref (wad g 18), .int (f 7)])
def eSE (g : wG) (f : Nat → Int32) : va_E := .inr (3, [.ref (wad g 20), .ref (wad g 21), .ref (wad g 22), .int (f 3)])
def eTU (g : wG) (f : Nat → Int32) : va_E := .inr (4, [.ref (wad g 24), .ref (wad g 33), .ref (wad g 36), .ref (wad g 39), .ref (wad g 42), .ref (wad g 43), .int (f 6), .int (f 7), .int (f 8), .int (f 9), .int (f 10)])
def ePA (g : wG) (f : Nat → Int32) : va_E := .inr (5, [.ref (wad g 45), .ref (wad g 52), .ref (wad g 55), .ref (wad g 56), .int (f 4)])
def eTR (f : Nat → Int32) : va_E := .inr (6, [.int (f 0)])
def eWR (c : Nat) (f : Nat → Int32) : va_E := .inr (7 + c, [.int (f 0), .int (f 1)])
def eMO (g : wG) (f : Nat → Int32) : va_E := .inr (10, [.int (f 0), .int (f 1), .ref (wad g 59), .ref (wad g 60), .ref (wad g 61), .int (f 5), .int (f 6), .ref (wad g 62), .ref (wad g 63), .int (f 9), .int (f 10), .ref (wad g 64), .ref (wad g 65), .int (f 13), .ref (wad g 66), .ref (wad g 67), .ref (wad g 68), .ref (wad g 69), .ref (wad g 70), .ref (wad g 71), .ref (wad g 72), .ref (wad g 73), .int (f 22), .int (f 23), .ref (wad g 74), .ref (wad g 75), .ref (wad g 76), .ref (wad g 77), .ref (wad g 78)])
def wrow (g : wG) (b n : Nat) : Nat → Option Nat := fun i => if i < n then some (wad g (b + i)) else none
def wtL (g : wG) : List ((Nat → Int32) → va_E) := [
  eAP g, fun _ => eQ (wcR g) 4 (fun i => if i < 4 then some (wad g (2 * i + 2)) else none), eRW g 0, eI g 40, eRW g 1, eI g 40, eRW g 2, eI g 40, eRW g 3, eI g 40,
  fun _ => eQ (wcW g) 6 (wrow g 79 (wm g)), eLE g, eI g 24, eI g 24, eI g 24, eI g 24, eI g 24, eI g 24, eI g 24, eSE g,
  eI g 6, eI g 64, eI g 64, eTU g, fun _ => eQ (wcII g) 8 (wrow g 25 8), eI g 41, eI g 41, eI g 41, eI g 41, eI g 41,
  eI g 41, eI g 41, eI g 41, fun _ => eQ (wcII g) 2 (wrow g 34 2), eI g 41, eI g 41, fun _ => eQ (wcII g) 2 (wrow g 37 2), eI g 41, eI g 41, fun _ => eQ (wcII g) 2 (wrow g 40 2),
  eI g 41, eI g 41, eI g 2, eI g 8, ePA g, fun _ => eQ (wcII g) 6 (wrow g 46 6), eI g 100, eI g 100, eI g 100, eI g 100,
  eI g 100, eI g 100, fun _ => eQ (wcII g) 2 (wrow g 53 2), eI g 100, eI g 100, eI g 100, eI g 6, eTR, eMO g, eI g 4,
  eI g 4, eI g 160, eI g 6, eI g 6, eI g 6, eI g 6, eI g 24, eI g 24, eI g 24, eI g 24,
  eI g 24, eI g 24, eI g 64, eI g 64, eI g 369, eI g 369, eI g 369, eI g 700, eI g 6]
def wt (g : wG) (k : Nat) (f : Nat → Int32) : va_E := match (wtL g)[k]? with
  | some e => e f
  | none => eWR (wK g (k - 79)) f
def wl (g : wG) (F : wF) : va_W := (List.range (79 + wm g)).map (fun k => (wad g k, wt g k (F k)))
theorem wl_at {g : wG} {F : wF} {k : Nat} (h : k < 79 + wm g) : (wl g F)[k]? = some (wad g k, wt g k (F k)) := by
  unfold wl
  rw [List.getElem?_map, List.getElem?_range h]
  rfl
theorem wl_len (g : wG) (F : wF) : (wl g F).length = 79 + wm g := by
  unfold wl; rw [List.length_map, List.length_range]
theorem wl_set {g : wG} {F F' : wF} {h : Nat} (hh : h < 79 + wm g) (ho : ∀ k, k ≠ h → F' k = F k) : (wl g F).set h (wad g h, wt g h (F' h)) = wl g F' := by
  apply List.ext_getElem?
  intro j
  by_cases hj : j = h
  · subst hj
    rw [List.getElem?_set_self (by rw [wl_len]; exact hh), wl_at hh]
  · rw [List.getElem?_set_ne (Ne.symm hj)]
    by_cases hl : j < 79 + wm g
    · rw [wl_at hl, wl_at hl, ho j hj]
    · rw [List.getElem?_eq_none (by rw [wl_len]; omega), List.getElem?_eq_none (by rw [wl_len]; omega)]
theorem u2_ne {F : wF} {h i : Nat} {x : Int32} : ∀ k, k ≠ h → u2 F h i x k = F k := fun k hk => by funext b; simp [u2, hk]
theorem u2_self (F : wF) (h i : Nat) (x : Int32) : u2 F h i x h = upd (F h) i x := by funext b; simp [u2, upd]
theorem u2_same (F : wF) (h i : Nat) (x : Int32) : u2 F h i x h i = x := by simp [u2]
theorem u2_h {F : wF} {h i a b : Nat} {x : Int32} (n : a ≠ h) : u2 F h i x a b = F a b := by simp [u2, n]
theorem u2_i {F : wF} {h i a b : Nat} {x : Int32} (n : b ≠ i) : u2 F h i x a b = F a b := by simp [u2, n]
/-- the words that don't stay through calls by themselves: nest mates, casts, what is declared -/
def nwl : List Jvm.Cond := [(Jvm.Cond.methodLinkNest "AnswerPost" (17 : Nat) ({ cls := "AnswerPost$Row", name := "<init>", desc := "()V" } : Jvm.MethodName) "AnswerPost"), (Jvm.Cond.methodLinkNest "AnswerPost" (26 : Nat) ({ cls := "AnswerPost$Letters", name := "<init>", desc := "()V" } : Jvm.MethodName) "AnswerPost"), (Jvm.Cond.methodLinkNest "AnswerPost" (33 : Nat) ({ cls := "AnswerPost$Settling", name := "<init>", desc := "()V" } : Jvm.MethodName) "AnswerPost"), (Jvm.Cond.methodLinkNest "AnswerPost" (40 : Nat) ({ cls := "AnswerPost$Turns", name := "<init>", desc := "()V" } : Jvm.MethodName) "AnswerPost"), (Jvm.Cond.methodLinkNest "AnswerPost" (47 : Nat) ({ cls := "AnswerPost$Parts", name := "<init>", desc := "()V" } : Jvm.MethodName) "AnswerPost"), (Jvm.Cond.methodLinkNest "AnswerPost" (54 : Nat) ({ cls := "AnswerPost$Trail", name := "<init>", desc := "()V" } : Jvm.MethodName) "AnswerPost"), (Jvm.Cond.methodLinkNest "AnswerPost$Letters" (54 : Nat) ({ cls := "AnswerPost", name := "pays", desc := "(III)I" } : Jvm.MethodName) "AnswerPost"), (Jvm.Cond.methodLinkNest "AnswerPost$Turns" (65 : Nat) ({ cls := "AnswerPost", name := "pays", desc := "(III)I" } : Jvm.MethodName) "AnswerPost"), (Jvm.Cond.methodLinkNest "AnswerPost$Row" (22 : Nat) ({ cls := "AnswerPost", name := "isWithin", desc := "(III)Z" } : Jvm.MethodName) "AnswerPost"), (Jvm.Cond.methodLinkNest "AnswerPost$Parts" (32 : Nat) ({ cls := "AnswerPost", name := "pays", desc := "(III)I" } : Jvm.MethodName) "AnswerPost"), (Jvm.Cond.declares ({ cls := "AnswerPost$Writer", name := "writersTelling", desc := "(LAnswerPost$Trail;)I" } : Jvm.MethodName)), (Jvm.Cond.castable "AnswerPost$Lawyer" "AnswerPost$Miser"), (Jvm.Cond.castable "AnswerPost$Miser" "AnswerPost$Writer"), (Jvm.Cond.castable "AnswerPost$Lawyer" "AnswerPost$Writer")]
def ncl : List (String × String) := [(R_WR, R_MI), (R_WR, R_LA), (R_MI, R_LA)]
def Nz (s : State) : Prop := (∀ w ∈ nwl, va_Nw w s) ∧ ∀ q ∈ ncl, va_Nc q.1 q.2 s
theorem nwl_tabs : ∀ w ∈ nwl, w.onTables = true := by decide +kernel
theorem Nz.warm {s U : State} (hW : s.WarmedH U.vm) (h : Nz s) : Nz U := by
  refine ⟨fun w hw => ?_, fun q hq => (h.2 q hq).moved hW.alike⟩
  have h0 := h.1 w hw
  simp only [nwl, List.mem_cons, List.not_mem_nil, or_false] at hw
  rcases hw with rfl | rfl | rfl | rfl | rfl | rfl | rfl | rfl | rfl | rfl | rfl | rfl | rfl | rfl <;> first | exact va_Nw.warmM hW h0 | exact va_Nw.warmC hW h0 | exact va_Nw.warmD hW h0
theorem Nz.same {s U : State} (h : s.vm = U.vm) (hz : Nz s) : Nz U :=
  ⟨fun w hw => va_Nw.same (nwl_tabs w hw) h (hz.1 w hw), fun q hq => by
    obtain ⟨c, t, h1, h2, h3⟩ := hz.2 q hq
    exact ⟨c, t, by rw [← h]; exact h1, by rw [← h]; exact h2, by rw [← h]; exact h3⟩⟩
/-- the world of a walk -/
def Wd (D : va_G) (g : wG) (F : wF) (A : Nat → Prop) (H0 H : Heap) (locs : List Loc) (s : State) : Prop :=
  va_K D classes (wtys g) s ∧ va_P D classes (wl g F) H ∧ va_D A (wl g F) ∧ va_S A H0 H locs ∧ (∀ q, H0.size ≤ q → A q) ∧ Nz s
/-- the world at a method's start, and at its end -/
def Pz (D : va_G) (g : wG) (F : wF) (sz : Nat) (U : State) : Prop :=
  U.heap.size = sz ∧ va_K D classes (wtys g) U ∧ va_P D classes (wl g F) U.heap ∧ va_D (fun _ => True) (wl g F) ∧ Nz U
def Bw (D : va_G) (A : Nat → Prop) (g : wG) (u : wF) (t : State) : Prop :=
  va_K D classes (wtys g) t ∧ va_P D classes (wl g u) t.heap ∧ va_D A (wl g u) ∧ Nz t
def Qw (post : Option Value → wG → wF → Prop) (B : wG → wF → State → Prop) (A : Nat → Prop) : Array Value → State → Outcome → State → Prop :=
  fun _ st oc t => (∃ (v : Option Value) (g' : wG) (u : wF), oc = .returned v ∧ post v g' u ∧ B g' u t) ∧ va_F A st t
def rmc (d mc ms : Nat) : Room := { frames := d, cells := mc, slots := ms, locals := 34 * d }
/-- a method that changes nothing: its answer is v -/
def CR (l : Launch) (y : MethodName) (b : ByteArray) (n : Nat) (ret : Option FieldType) (d : Nat) (D : va_G) (g : wG) (F : wF) (av : List Value) (v : Value) : Prop :=
  ∀ sz, Met l y (.code y b n ret :: gws) (rmc d 0 0) (va_Pc av (Pz D g F sz)) (k2_QcV v) 0 0 (fun _ => False)
/-- a method that changes the world -/
def CW (l : Launch) (y : MethodName) (b : ByteArray) (n : Nat) (ret : Option FieldType) (d mc ms : Nat) (D : va_G) (g : wG) (F : wF) (av : List Value) (post : Option Value → wG → wF → Prop) : Prop :=
  ∀ sz, Met l y (.code y b n ret :: gws) (rmc d mc ms) (va_Pc av (Pz D g F sz)) (Qw post (Bw D (va_A (wl g F) sz)) (va_A (wl g F) sz)) mc ms (va_A (wl g F) sz)
theorem Pz.blind (D : va_G) (g : wG) (F : wF) (sz : Nat) (av : List Value) : FrameBlind (va_Pc av (Pz D g F sz)) := fun a U f mk q => by
  obtain ⟨q0, q1, q2, q3, q4, q5⟩ := q
  exact ⟨q0, q1, va_K.moved (u := U) (U := U.calling f mk a) (Vm.Alike.refl U.vm) q2, q3, q4, Nz.same (s := U) (U := U.calling f mk a) rfl q5⟩
section WS
variable {p : Program} {l : Launch} {e : Env} {R : Room} {s : State} {m : MethodId} {args : Array Value} {below : List Frame} {meth : Method} {c : Code} {H : Heap} {locs : List Loc} {cells slots : Nat} {Q : State → Prop}
variable {cc : ByteArray} {pc : Nat} {ls : Array Slot} {lv : List (Nat × Value)} {rest st : List Value} {D : va_G} {A : Nat → Prop} {H0 : Heap} {nL : Nat} {own : String} {g : wG} {F : wF}
theorem Wd.pre (hw : Wd D g F A H0 H locs s) {U : State} (hU : U.heap = H) (hW : s.WarmedH U.vm) : Pz D g F H.size U := by
  obtain ⟨hK, hP, hD, hS, hA, hN⟩ := hw
  exact ⟨by rw [hU], va_K.moved hW.alike hK, by rw [hU]; exact hP, hD.weaken (fun _ _ _ _ => trivial), hN.warm hW⟩
theorem Wd.free (hw : Wd D g F A H0 H locs s) : ∀ q, va_A (wl g F) H.size q → A q := by
  obtain ⟨hK, hP, hD, hS, hA, hN⟩ := hw
  intro q h
  rcases h with ⟨k, e, h⟩ | h
  · exact hD.2 k (q, e) h
  · exact hA q (Nat.le_trans hS.1 h)
theorem CR.start {y : MethodName} {b : ByteArray} {n : Nat} {ret : Option FieldType} {d : Nat} {av : List Value} {v : Value} (hy : plainName y.cls = true) (hn : (lg_sl av).length ≤ n)
    (body : ∀ (p : Program) (e : Env) (s : State) (m : MethodId) (args : Array Value) (below : List Frame) (meth : Method) (c : Code) (A : Nat → Prop) (ls : Array Slot), CallFix p m c b n s args gws y.cls → meth.sig.returnType = ret → meth.locks = false →
      Wd D g F A s.heap s.heap [] s → lv_has ls n (lv_args 0 av) → W p l e (rmc d 0 0) s m args below meth c s.heap [] 0 0 (MQ below (k2_QcV v) args s 0 0 (fun _ => False)) (F0 m 0 ls [])) : CR l y b n ret d D g F av v := by
  intro sz
  refine Met.ofW (cc := b) (maxL := n) (ret := ret) hy rfl ?_
  intro p e s m args below meth c s₁ B hml hv
  obtain ⟨rfl, hsz, hK, hP, hD0, hN⟩ := hv
  have hts := atoms_spec (ws := .code y b n ret :: gws) B.pre
  have hl := lv_entry av (n := n) hn
  rw [lg_entry_eq]
  generalize (lg_sl av ++ List.replicate (n - (lg_sl av).length) Slot.unset).toArray = ls at hl ⊢
  exact body p e s m _ below meth c (va_A (wl g F) s.heap.size) ls ⟨B.exec, B.bytes, hml, findClass_of_methodNamed B.named, fun w hw => hts w (List.mem_cons_of_mem _ hw)⟩ B.returns B.notSynchronized ⟨hK, hP, hD0.self, va_S.rf, fun q h => Or.inr h, hN⟩ hl
theorem CW.start {y : MethodName} {b : ByteArray} {n : Nat} {ret : Option FieldType} {d mc ms : Nat} {av : List Value} {post : Option Value → wG → wF → Prop} (hy : plainName y.cls = true) (hn : (lg_sl av).length ≤ n)
    (body : ∀ (p : Program) (e : Env) (s : State) (m : MethodId) (args : Array Value) (below : List Frame) (meth : Method) (c : Code) (A : Nat → Prop) (ls : Array Slot), CallFix p m c b n s args gws y.cls → meth.sig.returnType = ret → meth.locks = false →
      Wd D g F A s.heap s.heap [] s → lv_has ls n (lv_args 0 av) → W p l e (rmc d mc ms) s m args below meth c s.heap [] 0 0 (MQ below (Qw post (Bw D A) A) args s mc ms A) (F0 m 0 ls [])) : CW l y b n ret d mc ms D g F av post := by
  intro sz
  refine Met.ofW (cc := b) (maxL := n) (ret := ret) hy rfl ?_
  intro p e s m args below meth c s₁ B hml hv
  obtain ⟨rfl, hsz, hK, hP, hD0, hN⟩ := hv
  subst hsz
  have hts := atoms_spec (ws := .code y b n ret :: gws) B.pre
  have hl := lv_entry av (n := n) hn
  rw [lg_entry_eq]
  generalize (lg_sl av ++ List.replicate (n - (lg_sl av).length) Slot.unset).toArray = ls at hl ⊢
  exact body p e s m _ below meth c (va_A (wl g F) s.heap.size) ls ⟨B.exec, B.bytes, hml, findClass_of_methodNamed B.named, fun w hw => hts w (List.mem_cons_of_mem _ hw)⟩ B.returns B.notSynchronized ⟨hK, hP, hD0.self, va_S.rf, fun q h => Or.inr h, hN⟩ hl
-- how a walk ends
theorem R_i (hc : CallFix p m c cc nL s args gws own) (hr : meth.sig.returnType = some .int) (hlocks : meth.locks = false) {x : Int32} {v : Value} (hv : .int x = v) (hdg : decode cc pc = .ok (.ireturn, 1)) :
    W p l e R s m args below meth c s.heap [] 0 0 (MQ below (k2_QcV v) args s 0 0 (fun _ => False)) (F0 m pc ls [.int x]) := by
  subst hv
  exact W.iret hc.1 hc.2.1 hr (fun t ht _ => ⟨rfl, ht⟩) (fun q h => by cases h) hdg hlocks
theorem R_z (hc : CallFix p m c cc nL s args gws own) (hr : meth.sig.returnType = some .boolean) (hlocks : meth.locks = false) {x : Int32} {v : Value} (hv : .int x = v) (hx : narrow .boolean (.int x) = .int x) (hdg : decode cc pc = .ok (.ireturn, 1)) :
    W p l e R s m args below meth c s.heap [] 0 0 (MQ below (k2_QcV v) args s 0 0 (fun _ => False)) (F0 m pc ls [.int x]) := by
  subst hv
  exact W.zret hc.1 hc.2.1 hr hx (fun t ht _ => ⟨rfl, ht⟩) (fun q h => by cases h) hdg hlocks
theorem R_a (hc : CallFix p m c cc nL s args gws own) {rt : FieldType} (hr : meth.sig.returnType = some rt) (hrt : (∃ n, rt = .object n) ∨ ∃ t, rt = .array t) (hlocks : meth.locks = false) {x v : Value} (hv : x = v) (hx : x = .null ∨ ∃ a, x = .ref a) (hdg : decode cc pc = .ok (.areturn, 1)) :
    W p l e R s m args below meth c s.heap [] 0 0 (MQ below (k2_QcV v) args s 0 0 (fun _ => False)) (F0 m pc ls [x]) := by
  subst hv
  exact W.aret hc.1 hc.2.1 hr hrt hx (fun t ht _ => ⟨rfl, ht⟩) (fun q h => by cases h) hdg hlocks
variable {post : Option Value → wG → wF → Prop}
theorem Wd.fin (hw : Wd D g F A s.heap H locs s) {v : Option Value} (hp : post v g F) {t : State} (ht : t.heap = H) (hW : s.WarmedH t.vm) : Qw post (Bw D A) A args s (.returned v) t := by
  obtain ⟨hK, hP, hD, hS, hA, hN⟩ := hw
  exact ⟨⟨v, g, F, rfl, hp, va_K.moved hW.alike hK, by rw [ht]; exact hP, hD, hN.warm hW⟩, hS.F ht⟩
theorem W_i (hc : CallFix p m c cc nL s args gws own) (hw : Wd D g F A s.heap H locs s) (hr : meth.sig.returnType = some .int) (hlocks : meth.locks = false) {x : Int32} (hp : post (some (.int x)) g F) (hdg : decode cc pc = .ok (.ireturn, 1)) :
    W p l e R s m args below meth c H locs cells slots (MQ below (Qw post (Bw D A) A) args s cells slots A) (F0 m pc ls [.int x]) :=
  W.iret hc.1 hc.2.1 hr (fun t ht hW => hw.fin hp ht hW) hw.2.2.2.1.2.2 hdg hlocks
theorem W_z (hc : CallFix p m c cc nL s args gws own) (hw : Wd D g F A s.heap H locs s) (hr : meth.sig.returnType = some .boolean) (hlocks : meth.locks = false) {x : Int32} (hp : post (some (.int x)) g F) (hx : narrow .boolean (.int x) = .int x) (hdg : decode cc pc = .ok (.ireturn, 1)) :
    W p l e R s m args below meth c H locs cells slots (MQ below (Qw post (Bw D A) A) args s cells slots A) (F0 m pc ls [.int x]) :=
  W.zret hc.1 hc.2.1 hr hx (fun t ht hW => hw.fin hp ht hW) hw.2.2.2.1.2.2 hdg hlocks
theorem W_l (hc : CallFix p m c cc nL s args gws own) (hw : Wd D g F A s.heap H locs s) (hr : meth.sig.returnType = some .long) (hlocks : meth.locks = false) {x : Int64} (hp : post (some (.long x)) g F) (hdg : decode cc pc = .ok (.lreturn, 1)) :
    W p l e R s m args below meth c H locs cells slots (MQ below (Qw post (Bw D A) A) args s cells slots A) (F0 m pc ls [.long x]) :=
  W.lret hc.1 hc.2.1 hr (fun t ht hW => hw.fin hp ht hW) hw.2.2.2.1.2.2 hdg hlocks
theorem W_v (hc : CallFix p m c cc nL s args gws own) (hw : Wd D g F A s.heap H locs s) (hr : meth.sig.returnType = none) (hlocks : meth.locks = false) (hp : post none g F) (hdg : decode cc pc = .ok (.return_, 1)) :
    W p l e R s m args below meth c H locs cells slots (MQ below (Qw post (Bw D A) A) args s cells slots A) (F0 m pc ls []) :=
  W.vret hc.1 hc.2.1 hr (fun t ht hW => hw.fin hp ht hW) hw.2.2.2.1.2.2 hdg hlocks
end WS
