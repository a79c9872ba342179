/-! printed by wip/gen/meths26.py: the law, each of its calls -/
section LC
variable {p : Program} {l : Launch} {e : Env} {s : State} {m : MethodId} {below : List Frame} {meth : Method} {c : Code} {H : Heap} {locs : List Loc} {cells slots : Nat} {Q : State → Prop} {ls : Array Slot} {rest : List Value}
variable {b L i : Nat} {xs : Nat → Int32} {D : va_G} {A : Nat → Prop} {g : wG} {F : wF} {v1 v2 : Value}
theorem l_arg (hc : CallFix p m c code 4 s #[.ref b] gws R_law0) (hX : va_X b L xs s s.heap) (hbl : b < s.heap.size) (hbA : ¬ A b) (hL : L ≤ 4096) (hw : Wd D g F A s.heap H locs s) (hl : lv_has ls 4 [(0, .ref b), (1, v1), (2, v2), (3, .int (nI i))]) {pc j : Nat} {n : Int} (hj : i + j < L) (d0 : decode code pc = .ok (.aload_n 0, 1)) (d1 : decode code (pc + 1) = .ok (.iload_n 3, 1)) (d2 : decode code (pc + 2) = .ok (.iconst n, 1)) (hn : Int32.ofInt n = nI j) (d3 : decode code (pc + 3) = .ok (.iadd, 1)) (d4 : decode code (pc + 4) = .ok (.iaload, 1))
    (kk : W p l e room_1 s m #[.ref b] below meth c H locs cells slots Q (F0 m (pc + 5) ls (.int (xs (i + j)) :: rest))) : W p l e room_1 s m #[.ref b] below meth c H locs cells slots Q (F0 m pc ls rest) := by
  refine lv_aload_n hc.1 hc.2.1 d0 rfl (lv_at hl 0 rfl) ?_
  refine lv_iload_n hc.1 hc.2.1 d1 rfl (lv_at hl 3 rfl) ?_
  refine lv_iconst hc.1 hc.2.1 d2 hn ?_
  refine q_iadd hc d3 ?_
  refine va_sld hc.1 hc.2.1 hX hbl hbA hw.2.2.2.1 (vp_in_nI hj (by omega)) d4 ?_
  rw [nI_clamp (by omega)]
  exact kk
theorem l_argb (hc : CallFix p m c code 4 s #[.ref b] gws R_law0) (hX : va_X b L xs s s.heap) (hbl : b < s.heap.size) (hbA : ¬ A b) (hL : L ≤ 4096) (hw : Wd D g F A s.heap H locs s) (hl : lv_has ls 4 [(0, .ref b), (1, v1), (2, v2), (3, .int (nI i))]) {pc j : Nat} {n : Int} (hj : i + j < L) (d0 : decode code pc = .ok (.aload_n 0, 1)) (d1 : decode code (pc + 1) = .ok (.iload_n 3, 1)) (d2 : decode code (pc + 2) = .ok (.bipush n, 2)) (hn : (Int8.ofInt n).toInt32 = nI j) (d3 : decode code (pc + 4) = .ok (.iadd, 1)) (d4 : decode code (pc + 5) = .ok (.iaload, 1))
    (kk : W p l e room_1 s m #[.ref b] below meth c H locs cells slots Q (F0 m (pc + 6) ls (.int (xs (i + j)) :: rest))) : W p l e room_1 s m #[.ref b] below meth c H locs cells slots Q (F0 m pc ls rest) := by
  refine lv_aload_n hc.1 hc.2.1 d0 rfl (lv_at hl 0 rfl) ?_
  refine lv_iload_n hc.1 hc.2.1 d1 rfl (lv_at hl 3 rfl) ?_
  refine lv_bipush hc.1 hc.2.1 d2 hn ?_
  refine q_iadd hc d3 ?_
  refine va_sld hc.1 hc.2.1 hX hbl hbA hw.2.2.2.1 (vp_in_nI hj (by omega)) d4 ?_
  rw [nI_clamp (by omega)]
  exact kk
/-- the law stands behind a call, both in one state -/
def lw_K (p : Program) (l : Launch) (e : Env) (s : State) (m : MethodId) (below : List Frame) (meth : Method) (c : Code) (b i cells slots : Nat) (D : va_G) (A : Nat → Prop) (Q : State → Prop) : Prop :=
  ∀ (g : wG) (F : wF) (P : PSt) (lw : Nat) (L : LSt) (S : SSt) (tr ft : Int32) (H : Heap) (locs : List Loc) (ls : Array Slot), GI g P lw L S → CI g F P lw L S tr ft → MI g F P lw L S tr ft → Wd D g F A s.heap H locs s → lv_has ls 4 [(0, .ref b), (1, .ref (wad g 0)), (2, .ref (wad g 58)), (3, .int (nI i))] →
    W p l e room_1 s m #[.ref b] below meth c H locs (cells + 6) (slots + 12) Q (F0 m 1296 ls [])
theorem lc_0 (hc : CallFix p m c code 4 s #[.ref b] gws R_law0) (hX : va_X b L xs s s.heap) (hbl : b < s.heap.size) (hbA : ¬ A b) (hL : L ≤ 4096) (hi : i + 8 ≤ L) (hce : cells + 6 ≤ 600000) (hsl : slots + 12 ≤ 7302250) (pc : Nat) (lf : Nat → Nat) (lw : Nat) (cn : Nat) (fr to hv dy : Nat → Nat) (an af : Nat → Option Nat) (ln : Nat → Option Nat) (sz : Nat → Nat) (ce : Nat → Nat → Int32) (tr ft : Int32) (hG : GI g (pc, lf) lw (cn, fr, to, hv, dy, an, af) (ln, sz, ce)) (hC : CI g F (pc, lf) lw (cn, fr, to, hv, dy, an, af) (ln, sz, ce) tr ft) (hM : MI g F (pc, lf) lw (cn, fr, to, hv, dy, an, af) (ln, sz, ce) tr ft) (hw : Wd D g F A s.heap H locs s) (hl : lv_has ls 4 [(0, .ref b), (1, .ref (wad g 0)), (2, .ref (wad g 58)), (3, .int (nI i))]) (kk : lw_K p l e s m below meth c b i cells slots D A Q) : W p l e room_1 s m #[.ref b] below meth c H locs cells slots Q (F0 m 164 ls []) := by
  have hx := hc.1
  have hb := hc.2.1
  refine lv_aload_n hx hb d_law_164 rfl (lv_at hl 1 rfl) ?_
  refine l_arg hc hX hbl hbA hL hw hl (j := 1) (by omega) d_law_165 d_law_166 d_law_167 (by decide) d_law_168 d_law_169 ?_
  refine l_arg hc hX hbl hbA hL hw hl (j := 2) (by omega) d_law_170 d_law_171 d_law_172 (by decide) d_law_173 d_law_174 ?_
  refine l_arg hc hX hbl hbA hL hw hl (j := 3) (by omega) d_law_175 d_law_176 d_law_177 (by decide) d_law_178 d_law_179 ?_
  refine l_arg hc hX hbl hbA hL hw hl (j := 4) (by omega) d_law_180 d_law_181 d_law_182 (by decide) d_law_183 d_law_184 ?_
  refine kWV hc hw lk_law_13 (h := 0) (As := [.int (xs (i + 1)), .int (xs (i + 2)), .int (xs (i + 3)), .int (xs (i + 4))]) (rest := []) (c_AP_post l D g F pc lf lw cn fr to hv dy an af ln sz ce tr ft hG hC (xs (i + 1)) (xs (i + 2)) (xs (i + 3)) (xs (i + 4))) (rc_AP hw) ⟨Nat.le_of_ble_eq_true rfl, Nat.le_of_ble_eq_true rfl⟩ ⟨by show cells + 6 ≤ 600000; omega, by show slots + 12 ≤ 7302250; omega⟩ rfl hl rfl (Nat.le_of_ble_eq_true rfl) d_law_185 (fun v9 g9 F1 H locs hp hw => ?_)
  obtain ⟨rfl, ha9, hno, hso, hf58⟩ := hp
  have hM1 := MI_c hM (fun k h1 h2 => hf58 k h1 h2)
  have hl : lv_has ls 4 [(0, .ref b), (1, .ref (wad g9 0)), (2, .ref (wad g9 58)), (3, .int (nI i))] := by rw [ha9 0 (by decide), ha9 58 (by decide)]; exact hl
  refine lv_aload_n hx hb d_law_188 rfl (lv_at hl 2 rfl) ?_
  refine l_arg hc hX hbl hbA hL hw hl (j := 1) (by omega) d_law_189 d_law_190 d_law_191 (by decide) d_law_192 d_law_193 ?_
  refine l_arg hc hX hbl hbA hL hw hl (j := 2) (by omega) d_law_194 d_law_195 d_law_196 (by decide) d_law_197 d_law_198 ?_
  refine l_arg hc hX hbl hbA hL hw hl (j := 3) (by omega) d_law_199 d_law_200 d_law_201 (by decide) d_law_202 d_law_203 ?_
  refine l_arg hc hX hbl hbA hL hw hl (j := 4) (by omega) d_law_204 d_law_205 d_law_206 (by decide) d_law_207 d_law_208 ?_
  refine kWV hc hw lk_law_17 (h := 58) (As := [.int (xs (i + 1)), .int (xs (i + 2)), .int (xs (i + 3)), .int (xs (i + 4))]) (rest := [_]) (c_MO_post l D g9 F1 g pc lf lw cn fr to hv dy an af ln sz ce tr ft hG hM1 (xs (i + 1)) (xs (i + 2)) (xs (i + 3)) (xs (i + 4))) (rc_MO hw) ⟨Nat.le_of_ble_eq_true rfl, Nat.le_of_ble_eq_true rfl⟩ ⟨by show cells + 6 ≤ 600000; omega, by show slots + 12 ≤ 7302250; omega⟩ rfl hl rfl (Nat.le_of_ble_eq_true rfl) d_law_209 (fun v9 g1 F2 H locs hp hw => ?_)
  obtain ⟨rfl, rfl, hM2, hf2⟩ := hp
  refine lv_icmp_eq (tgt := 1296) hx hb d_law_212 (by decide) (fun _ => ?_) (fun h9 => absurd rfl h9)
  rcases hr : (s_post (ln, sz, ce) (xs (i + 1)) (xs (i + 2)) (xs (i + 3)) (xs (i + 4))).2.2 with _ | mm
  · obtain ⟨hgg, hC1⟩ := hno hr
    subst hgg
    exact W.widen (by omega) (by omega) (kk g _ _ _ _ _ _ _ _ _ _ hG (CI_c hC1 (fun k hk => hf2 k hk)) (hM2.1 hr) hw hl)
  · obtain ⟨hkk, hG9, hC9⟩ := hso mm hr
    exact W.widen (by omega) (by omega) (kk g9 _ _ _ _ _ _ _ _ _ _ hG9 (CI_c hC9 (fun k hk => hf2 k hk)) (hM2.2 mm hr g9 hkk) hw hl)
theorem lc_1 (hc : CallFix p m c code 4 s #[.ref b] gws R_law0) (hX : va_X b L xs s s.heap) (hbl : b < s.heap.size) (hbA : ¬ A b) (hL : L ≤ 4096) (hi : i + 8 ≤ L) (hce : cells + 6 ≤ 600000) (hsl : slots + 12 ≤ 7302250) (pc : Nat) (lf : Nat → Nat) (lw : Nat) (cn : Nat) (fr to hv dy : Nat → Nat) (an af : Nat → Option Nat) (ln : Nat → Option Nat) (sz : Nat → Nat) (ce : Nat → Nat → Int32) (tr ft : Int32) (hG : GI g (pc, lf) lw (cn, fr, to, hv, dy, an, af) (ln, sz, ce)) (hC : CI g F (pc, lf) lw (cn, fr, to, hv, dy, an, af) (ln, sz, ce) tr ft) (hM : MI g F (pc, lf) lw (cn, fr, to, hv, dy, an, af) (ln, sz, ce) tr ft) (hw : Wd D g F A s.heap H locs s) (hl : lv_has ls 4 [(0, .ref b), (1, .ref (wad g 0)), (2, .ref (wad g 58)), (3, .int (nI i))]) (kk : lw_K p l e s m below meth c b i cells slots D A Q) : W p l e room_1 s m #[.ref b] below meth c H locs cells slots Q (F0 m 217 ls []) := by
  have hx := hc.1
  have hb := hc.2.1
  refine lv_aload_n hx hb d_law_217 rfl (lv_at hl 1 rfl) ?_
  refine l_arg hc hX hbl hbA hL hw hl (j := 1) (by omega) d_law_218 d_law_219 d_law_220 (by decide) d_law_221 d_law_222 ?_
  refine l_arg hc hX hbl hbA hL hw hl (j := 2) (by omega) d_law_223 d_law_224 d_law_225 (by decide) d_law_226 d_law_227 ?_
  refine kRV hc hw lk_law_18 (h := 0) (As := [.int (xs (i + 1)), .int (xs (i + 2))]) (rest := []) (c_AP_ofPerson l D g F pc lf lw cn fr to hv dy an af ln sz ce tr ft hG hC (xs (i + 1)) (xs (i + 2))) (rc_AP hw) ⟨Nat.le_of_ble_eq_true rfl, Nat.le_of_ble_eq_true rfl⟩ ⟨by show cells + 0 ≤ 600000; omega, by show slots + 0 ≤ 7302250; omega⟩ rfl hl rfl (Nat.le_of_ble_eq_true rfl) d_law_228 ?_
  refine lv_aload_n hx hb d_law_231 rfl (lv_at hl 2 rfl) ?_
  refine l_arg hc hX hbl hbA hL hw hl (j := 1) (by omega) d_law_232 d_law_233 d_law_234 (by decide) d_law_235 d_law_236 ?_
  refine l_arg hc hX hbl hbA hL hw hl (j := 2) (by omega) d_law_237 d_law_238 d_law_239 (by decide) d_law_240 d_law_241 ?_
  refine kRV hc hw lk_law_22 (h := 58) (As := [.int (xs (i + 1)), .int (xs (i + 2))]) (rest := [_]) (c_MO_ofPerson l D g F pc lf lw cn fr to hv dy an af ln sz ce tr ft hG hM (xs (i + 1)) (xs (i + 2))) (rc_MO hw) ⟨Nat.le_of_ble_eq_true rfl, Nat.le_of_ble_eq_true rfl⟩ ⟨by show cells + 0 ≤ 600000; omega, by show slots + 0 ≤ 7302250; omega⟩ rfl hl rfl (Nat.le_of_ble_eq_true rfl) d_law_242 ?_
  refine lv_icmp_eq (tgt := 1296) hx hb d_law_245 (by decide) (fun _ => ?_) (fun h9 => absurd rfl h9)
  exact W.widen (by omega) (by omega) (kk g _ _ _ _ _ _ _ _ _ _ (hG) hC hM hw hl)
theorem lc_2 (hc : CallFix p m c code 4 s #[.ref b] gws R_law0) (hX : va_X b L xs s s.heap) (hbl : b < s.heap.size) (hbA : ¬ A b) (hL : L ≤ 4096) (hi : i + 8 ≤ L) (hce : cells + 6 ≤ 600000) (hsl : slots + 12 ≤ 7302250) (pc : Nat) (lf : Nat → Nat) (lw : Nat) (cn : Nat) (fr to hv dy : Nat → Nat) (an af : Nat → Option Nat) (ln : Nat → Option Nat) (sz : Nat → Nat) (ce : Nat → Nat → Int32) (tr ft : Int32) (hG : GI g (pc, lf) lw (cn, fr, to, hv, dy, an, af) (ln, sz, ce)) (hC : CI g F (pc, lf) lw (cn, fr, to, hv, dy, an, af) (ln, sz, ce) tr ft) (hM : MI g F (pc, lf) lw (cn, fr, to, hv, dy, an, af) (ln, sz, ce) tr ft) (hw : Wd D g F A s.heap H locs s) (hl : lv_has ls 4 [(0, .ref b), (1, .ref (wad g 0)), (2, .ref (wad g 58)), (3, .int (nI i))]) (kk : lw_K p l e s m below meth c b i cells slots D A Q) : W p l e room_1 s m #[.ref b] below meth c H locs cells slots Q (F0 m 250 ls []) := by
  have hx := hc.1
  have hb := hc.2.1
  refine lv_aload_n hx hb d_law_250 rfl (lv_at hl 1 rfl) ?_
  refine l_arg hc hX hbl hbA hL hw hl (j := 1) (by omega) d_law_251 d_law_252 d_law_253 (by decide) d_law_254 d_law_255 ?_
  refine l_arg hc hX hbl hbA hL hw hl (j := 2) (by omega) d_law_256 d_law_257 d_law_258 (by decide) d_law_259 d_law_260 ?_
  refine kRV hc hw lk_law_23 (h := 0) (As := [.int (xs (i + 1)), .int (xs (i + 2))]) (rest := []) (c_AP_scale l D g F pc lf lw cn fr to hv dy an af ln sz ce tr ft hG hC (xs (i + 1)) (xs (i + 2))) (rc_AP hw) ⟨Nat.le_of_ble_eq_true rfl, Nat.le_of_ble_eq_true rfl⟩ ⟨by show cells + 0 ≤ 600000; omega, by show slots + 0 ≤ 7302250; omega⟩ rfl hl rfl (Nat.le_of_ble_eq_true rfl) d_law_261 ?_
  refine lv_aload_n hx hb d_law_264 rfl (lv_at hl 2 rfl) ?_
  refine l_arg hc hX hbl hbA hL hw hl (j := 1) (by omega) d_law_265 d_law_266 d_law_267 (by decide) d_law_268 d_law_269 ?_
  refine l_arg hc hX hbl hbA hL hw hl (j := 2) (by omega) d_law_270 d_law_271 d_law_272 (by decide) d_law_273 d_law_274 ?_
  refine kRV hc hw lk_law_26 (h := 58) (As := [.int (xs (i + 1)), .int (xs (i + 2))]) (rest := [_]) (c_MO_scale l D g F pc lf lw cn fr to hv dy an af ln sz ce tr ft hG hM (xs (i + 1)) (xs (i + 2))) (rc_MO hw) ⟨Nat.le_of_ble_eq_true rfl, Nat.le_of_ble_eq_true rfl⟩ ⟨by show cells + 0 ≤ 600000; omega, by show slots + 0 ≤ 7302250; omega⟩ rfl hl rfl (Nat.le_of_ble_eq_true rfl) d_law_275 ?_
  refine lv_icmp_eq (tgt := 1296) hx hb d_law_278 (by decide) (fun _ => ?_) (fun h9 => absurd rfl h9)
  exact W.widen (by omega) (by omega) (kk g _ _ _ _ _ _ _ _ _ _ (hG) hC hM hw hl)
theorem lc_3 (hc : CallFix p m c code 4 s #[.ref b] gws R_law0) (hX : va_X b L xs s s.heap) (hbl : b < s.heap.size) (hbA : ¬ A b) (hL : L ≤ 4096) (hi : i + 8 ≤ L) (hce : cells + 6 ≤ 600000) (hsl : slots + 12 ≤ 7302250) (pc : Nat) (lf : Nat → Nat) (lw : Nat) (cn : Nat) (fr to hv dy : Nat → Nat) (an af : Nat → Option Nat) (ln : Nat → Option Nat) (sz : Nat → Nat) (ce : Nat → Nat → Int32) (tr ft : Int32) (hG : GI g (pc, lf) lw (cn, fr, to, hv, dy, an, af) (ln, sz, ce)) (hC : CI g F (pc, lf) lw (cn, fr, to, hv, dy, an, af) (ln, sz, ce) tr ft) (hM : MI g F (pc, lf) lw (cn, fr, to, hv, dy, an, af) (ln, sz, ce) tr ft) (hw : Wd D g F A s.heap H locs s) (hl : lv_has ls 4 [(0, .ref b), (1, .ref (wad g 0)), (2, .ref (wad g 58)), (3, .int (nI i))]) (kk : lw_K p l e s m below meth c b i cells slots D A Q) : W p l e room_1 s m #[.ref b] below meth c H locs cells slots Q (F0 m 283 ls []) := by
  have hx := hc.1
  have hb := hc.2.1
  refine lv_aload_n hx hb d_law_283 rfl (lv_at hl 1 rfl) ?_
  refine l_arg hc hX hbl hbA hL hw hl (j := 1) (by omega) d_law_284 d_law_285 d_law_286 (by decide) d_law_287 d_law_288 ?_
  refine kWV hc hw lk_law_27 (h := 0) (As := [.int (xs (i + 1))]) (rest := []) (c_AP_law l D g F pc lf lw cn fr to hv dy an af ln sz ce tr ft hG hC (xs (i + 1))) (rc_AP hw) ⟨Nat.le_of_ble_eq_true rfl, Nat.le_of_ble_eq_true rfl⟩ ⟨by show cells + 0 ≤ 600000; omega, by show slots + 0 ≤ 7302250; omega⟩ rfl hl rfl (Nat.le_of_ble_eq_true rfl) d_law_289 (fun v9 g1 F1 H locs hp hw => ?_)
  obtain ⟨rfl, rfl, hC1, hf1⟩ := hp
  have hM1 := MI_c hM (fun k h1 h2 => hf1 k (Or.inr (by omega)))
  refine lv_aload_n hx hb d_law_292 rfl (lv_at hl 2 rfl) ?_
  refine l_arg hc hX hbl hbA hL hw hl (j := 1) (by omega) d_law_293 d_law_294 d_law_295 (by decide) d_law_296 d_law_297 ?_
  refine kWV hc hw lk_law_31 (h := 58) (As := [.int (xs (i + 1))]) (rest := [_]) (c_MO_law l D g F1 pc lf lw cn fr to hv dy an af ln sz ce tr ft hG hM1 (xs (i + 1))) (rc_MO hw) ⟨Nat.le_of_ble_eq_true rfl, Nat.le_of_ble_eq_true rfl⟩ ⟨by show cells + 0 ≤ 600000; omega, by show slots + 0 ≤ 7302250; omega⟩ rfl hl rfl (Nat.le_of_ble_eq_true rfl) d_law_298 (fun v9 g1 F2 H locs hp hw => ?_)
  obtain ⟨rfl, rfl, hM2, hf2⟩ := hp
  have hC2 := CI_c hC1 (fun k hk => hf2 k hk)
  refine lv_icmp_eq (tgt := 1296) hx hb d_law_301 (by decide) (fun _ => ?_) (fun h9 => absurd rfl h9)
  exact W.widen (by omega) (by omega) (kk g _ _ _ _ _ _ _ _ _ _ (GI_law hG _) hC2 hM2 hw hl)
theorem lc_4 (hc : CallFix p m c code 4 s #[.ref b] gws R_law0) (hX : va_X b L xs s s.heap) (hbl : b < s.heap.size) (hbA : ¬ A b) (hL : L ≤ 4096) (hi : i + 8 ≤ L) (hce : cells + 6 ≤ 600000) (hsl : slots + 12 ≤ 7302250) (pc : Nat) (lf : Nat → Nat) (lw : Nat) (cn : Nat) (fr to hv dy : Nat → Nat) (an af : Nat → Option Nat) (ln : Nat → Option Nat) (sz : Nat → Nat) (ce : Nat → Nat → Int32) (tr ft : Int32) (hG : GI g (pc, lf) lw (cn, fr, to, hv, dy, an, af) (ln, sz, ce)) (hC : CI g F (pc, lf) lw (cn, fr, to, hv, dy, an, af) (ln, sz, ce) tr ft) (hM : MI g F (pc, lf) lw (cn, fr, to, hv, dy, an, af) (ln, sz, ce) tr ft) (hw : Wd D g F A s.heap H locs s) (hl : lv_has ls 4 [(0, .ref b), (1, .ref (wad g 0)), (2, .ref (wad g 58)), (3, .int (nI i))]) (kk : lw_K p l e s m below meth c b i cells slots D A Q) : W p l e room_1 s m #[.ref b] below meth c H locs cells slots Q (F0 m 306 ls []) := by
  have hx := hc.1
  have hb := hc.2.1
  refine lv_aload_n hx hb d_law_306 rfl (lv_at hl 1 rfl) ?_
  refine l_arg hc hX hbl hbA hL hw hl (j := 1) (by omega) d_law_307 d_law_308 d_law_309 (by decide) d_law_310 d_law_311 ?_
  refine l_arg hc hX hbl hbA hL hw hl (j := 2) (by omega) d_law_312 d_law_313 d_law_314 (by decide) d_law_315 d_law_316 ?_
  refine l_arg hc hX hbl hbA hL hw hl (j := 3) (by omega) d_law_317 d_law_318 d_law_319 (by decide) d_law_320 d_law_321 ?_
  refine l_arg hc hX hbl hbA hL hw hl (j := 4) (by omega) d_law_322 d_law_323 d_law_324 (by decide) d_law_325 d_law_326 ?_
  refine kWV hc hw lk_law_32 (h := 0) (As := [.int (xs (i + 1)), .int (xs (i + 2)), .int (xs (i + 3)), .int (xs (i + 4))]) (rest := []) (c_AP_send l D g F pc lf lw cn fr to hv dy an af ln sz ce tr ft hG hC (xs (i + 1)) (xs (i + 2)) (xs (i + 3)) (xs (i + 4))) (rc_AP hw) ⟨Nat.le_of_ble_eq_true rfl, Nat.le_of_ble_eq_true rfl⟩ ⟨by show cells + 0 ≤ 600000; omega, by show slots + 0 ≤ 7302250; omega⟩ rfl hl rfl (Nat.le_of_ble_eq_true rfl) d_law_327 (fun v9 g1 F1 H locs hp hw => ?_)
  obtain ⟨rfl, rfl, hC1, hf1⟩ := hp
  have hM1 := MI_c hM (fun k h1 h2 => hf1 k (Or.inr (by omega)))
  refine lv_aload_n hx hb d_law_330 rfl (lv_at hl 2 rfl) ?_
  refine l_arg hc hX hbl hbA hL hw hl (j := 1) (by omega) d_law_331 d_law_332 d_law_333 (by decide) d_law_334 d_law_335 ?_
  refine l_arg hc hX hbl hbA hL hw hl (j := 2) (by omega) d_law_336 d_law_337 d_law_338 (by decide) d_law_339 d_law_340 ?_
  refine l_arg hc hX hbl hbA hL hw hl (j := 3) (by omega) d_law_341 d_law_342 d_law_343 (by decide) d_law_344 d_law_345 ?_
  refine l_arg hc hX hbl hbA hL hw hl (j := 4) (by omega) d_law_346 d_law_347 d_law_348 (by decide) d_law_349 d_law_350 ?_
  refine kWV hc hw lk_law_35 (h := 58) (As := [.int (xs (i + 1)), .int (xs (i + 2)), .int (xs (i + 3)), .int (xs (i + 4))]) (rest := [_]) (c_MO_send l D g F1 pc lf lw cn fr to hv dy an af ln sz ce tr ft hG hM1 (xs (i + 1)) (xs (i + 2)) (xs (i + 3)) (xs (i + 4))) (rc_MO hw) ⟨Nat.le_of_ble_eq_true rfl, Nat.le_of_ble_eq_true rfl⟩ ⟨by show cells + 0 ≤ 600000; omega, by show slots + 0 ≤ 7302250; omega⟩ rfl hl rfl (Nat.le_of_ble_eq_true rfl) d_law_351 (fun v9 g1 F2 H locs hp hw => ?_)
  obtain ⟨rfl, rfl, hM2, hf2⟩ := hp
  have hC2 := CI_c hC1 (fun k hk => hf2 k hk)
  refine lv_icmp_eq (tgt := 1296) hx hb d_law_354 (by decide) (fun _ => ?_) (fun h9 => absurd rfl h9)
  exact W.widen (by omega) (by omega) (kk g _ _ _ _ _ _ _ _ _ _ (GI_send hG _ _ _ _) hC2 hM2 hw hl)
theorem lc_5 (hc : CallFix p m c code 4 s #[.ref b] gws R_law0) (hX : va_X b L xs s s.heap) (hbl : b < s.heap.size) (hbA : ¬ A b) (hL : L ≤ 4096) (hi : i + 8 ≤ L) (hce : cells + 6 ≤ 600000) (hsl : slots + 12 ≤ 7302250) (pc : Nat) (lf : Nat → Nat) (lw : Nat) (cn : Nat) (fr to hv dy : Nat → Nat) (an af : Nat → Option Nat) (ln : Nat → Option Nat) (sz : Nat → Nat) (ce : Nat → Nat → Int32) (tr ft : Int32) (hG : GI g (pc, lf) lw (cn, fr, to, hv, dy, an, af) (ln, sz, ce)) (hC : CI g F (pc, lf) lw (cn, fr, to, hv, dy, an, af) (ln, sz, ce) tr ft) (hM : MI g F (pc, lf) lw (cn, fr, to, hv, dy, an, af) (ln, sz, ce) tr ft) (hw : Wd D g F A s.heap H locs s) (hl : lv_has ls 4 [(0, .ref b), (1, .ref (wad g 0)), (2, .ref (wad g 58)), (3, .int (nI i))]) (kk : lw_K p l e s m below meth c b i cells slots D A Q) : W p l e room_1 s m #[.ref b] below meth c H locs cells slots Q (F0 m 359 ls []) := by
  have hx := hc.1
  have hb := hc.2.1
  refine lv_aload_n hx hb d_law_359 rfl (lv_at hl 1 rfl) ?_
  refine l_arg hc hX hbl hbA hL hw hl (j := 1) (by omega) d_law_360 d_law_361 d_law_362 (by decide) d_law_363 d_law_364 ?_
  refine l_arg hc hX hbl hbA hL hw hl (j := 2) (by omega) d_law_365 d_law_366 d_law_367 (by decide) d_law_368 d_law_369 ?_
  refine l_arg hc hX hbl hbA hL hw hl (j := 3) (by omega) d_law_370 d_law_371 d_law_372 (by decide) d_law_373 d_law_374 ?_
  refine kWV hc hw lk_law_36 (h := 0) (As := [.int (xs (i + 1)), .int (xs (i + 2)), .int (xs (i + 3))]) (rest := []) (c_AP_answer l D g F pc lf lw cn fr to hv dy an af ln sz ce tr ft hG hC (xs (i + 1)) (xs (i + 2)) (xs (i + 3))) (rc_AP hw) ⟨Nat.le_of_ble_eq_true rfl, Nat.le_of_ble_eq_true rfl⟩ ⟨by show cells + 0 ≤ 600000; omega, by show slots + 0 ≤ 7302250; omega⟩ rfl hl rfl (Nat.le_of_ble_eq_true rfl) d_law_375 (fun v9 g1 F1 H locs hp hw => ?_)
  obtain ⟨rfl, rfl, hC1, hf1⟩ := hp
  have hM1 := MI_c hM (fun k h1 h2 => hf1 k (Or.inr (by omega)))
  refine lv_aload_n hx hb d_law_378 rfl (lv_at hl 2 rfl) ?_
  refine l_arg hc hX hbl hbA hL hw hl (j := 1) (by omega) d_law_379 d_law_380 d_law_381 (by decide) d_law_382 d_law_383 ?_
  refine l_arg hc hX hbl hbA hL hw hl (j := 2) (by omega) d_law_384 d_law_385 d_law_386 (by decide) d_law_387 d_law_388 ?_
  refine l_arg hc hX hbl hbA hL hw hl (j := 3) (by omega) d_law_389 d_law_390 d_law_391 (by decide) d_law_392 d_law_393 ?_
  refine kWV hc hw lk_law_40 (h := 58) (As := [.int (xs (i + 1)), .int (xs (i + 2)), .int (xs (i + 3))]) (rest := [_]) (c_MO_answer l D g F1 pc lf lw cn fr to hv dy an af ln sz ce tr ft hG hM1 (xs (i + 1)) (xs (i + 2)) (xs (i + 3))) (rc_MO hw) ⟨Nat.le_of_ble_eq_true rfl, Nat.le_of_ble_eq_true rfl⟩ ⟨by show cells + 0 ≤ 600000; omega, by show slots + 0 ≤ 7302250; omega⟩ rfl hl rfl (Nat.le_of_ble_eq_true rfl) d_law_394 (fun v9 g1 F2 H locs hp hw => ?_)
  obtain ⟨rfl, rfl, hM2, hf2⟩ := hp
  have hC2 := CI_c hC1 (fun k hk => hf2 k hk)
  refine lv_icmp_eq (tgt := 1296) hx hb d_law_397 (by decide) (fun _ => ?_) (fun h9 => absurd rfl h9)
  exact W.widen (by omega) (by omega) (kk g _ _ _ _ _ _ _ _ _ _ (GI_answer hG _ _ _) hC2 hM2 hw hl)
theorem lc_6 (hc : CallFix p m c code 4 s #[.ref b] gws R_law0) (hX : va_X b L xs s s.heap) (hbl : b < s.heap.size) (hbA : ¬ A b) (hL : L ≤ 4096) (hi : i + 8 ≤ L) (hce : cells + 6 ≤ 600000) (hsl : slots + 12 ≤ 7302250) (pc : Nat) (lf : Nat → Nat) (lw : Nat) (cn : Nat) (fr to hv dy : Nat → Nat) (an af : Nat → Option Nat) (ln : Nat → Option Nat) (sz : Nat → Nat) (ce : Nat → Nat → Int32) (tr ft : Int32) (hG : GI g (pc, lf) lw (cn, fr, to, hv, dy, an, af) (ln, sz, ce)) (hC : CI g F (pc, lf) lw (cn, fr, to, hv, dy, an, af) (ln, sz, ce) tr ft) (hM : MI g F (pc, lf) lw (cn, fr, to, hv, dy, an, af) (ln, sz, ce) tr ft) (hw : Wd D g F A s.heap H locs s) (hl : lv_has ls 4 [(0, .ref b), (1, .ref (wad g 0)), (2, .ref (wad g 58)), (3, .int (nI i))]) (kk : lw_K p l e s m below meth c b i cells slots D A Q) : W p l e room_1 s m #[.ref b] below meth c H locs cells slots Q (F0 m 402 ls []) := by
  have hx := hc.1
  have hb := hc.2.1
  refine lv_aload_n hx hb d_law_402 rfl (lv_at hl 1 rfl) ?_
  refine l_arg hc hX hbl hbA hL hw hl (j := 1) (by omega) d_law_403 d_law_404 d_law_405 (by decide) d_law_406 d_law_407 ?_
  refine l_arg hc hX hbl hbA hL hw hl (j := 2) (by omega) d_law_408 d_law_409 d_law_410 (by decide) d_law_411 d_law_412 ?_
  refine kRV hc hw lk_law_41 (h := 0) (As := [.int (xs (i + 1)), .int (xs (i + 2))]) (rest := []) (c_AP_ofLetter l D g F pc lf lw cn fr to hv dy an af ln sz ce tr ft hG hC (xs (i + 1)) (xs (i + 2))) (rc_AP hw) ⟨Nat.le_of_ble_eq_true rfl, Nat.le_of_ble_eq_true rfl⟩ ⟨by show cells + 0 ≤ 600000; omega, by show slots + 0 ≤ 7302250; omega⟩ rfl hl rfl (Nat.le_of_ble_eq_true rfl) d_law_413 ?_
  refine lv_aload_n hx hb d_law_416 rfl (lv_at hl 2 rfl) ?_
  refine l_arg hc hX hbl hbA hL hw hl (j := 1) (by omega) d_law_417 d_law_418 d_law_419 (by decide) d_law_420 d_law_421 ?_
  refine l_arg hc hX hbl hbA hL hw hl (j := 2) (by omega) d_law_422 d_law_423 d_law_424 (by decide) d_law_425 d_law_426 ?_
  refine kRV hc hw lk_law_44 (h := 58) (As := [.int (xs (i + 1)), .int (xs (i + 2))]) (rest := [_]) (c_MO_ofLetter l D g F pc lf lw cn fr to hv dy an af ln sz ce tr ft hG hM (xs (i + 1)) (xs (i + 2))) (rc_MO hw) ⟨Nat.le_of_ble_eq_true rfl, Nat.le_of_ble_eq_true rfl⟩ ⟨by show cells + 0 ≤ 600000; omega, by show slots + 0 ≤ 7302250; omega⟩ rfl hl rfl (Nat.le_of_ble_eq_true rfl) d_law_427 ?_
  refine lv_icmp_eq (tgt := 1296) hx hb d_law_430 (by decide) (fun _ => ?_) (fun h9 => absurd rfl h9)
  exact W.widen (by omega) (by omega) (kk g _ _ _ _ _ _ _ _ _ _ (hG) hC hM hw hl)
theorem lc_7 (hc : CallFix p m c code 4 s #[.ref b] gws R_law0) (hX : va_X b L xs s s.heap) (hbl : b < s.heap.size) (hbA : ¬ A b) (hL : L ≤ 4096) (hi : i + 8 ≤ L) (hce : cells + 6 ≤ 600000) (hsl : slots + 12 ≤ 7302250) (pc : Nat) (lf : Nat → Nat) (lw : Nat) (cn : Nat) (fr to hv dy : Nat → Nat) (an af : Nat → Option Nat) (ln : Nat → Option Nat) (sz : Nat → Nat) (ce : Nat → Nat → Int32) (tr ft : Int32) (hG : GI g (pc, lf) lw (cn, fr, to, hv, dy, an, af) (ln, sz, ce)) (hC : CI g F (pc, lf) lw (cn, fr, to, hv, dy, an, af) (ln, sz, ce) tr ft) (hM : MI g F (pc, lf) lw (cn, fr, to, hv, dy, an, af) (ln, sz, ce) tr ft) (hw : Wd D g F A s.heap H locs s) (hl : lv_has ls 4 [(0, .ref b), (1, .ref (wad g 0)), (2, .ref (wad g 58)), (3, .int (nI i))]) (kk : lw_K p l e s m below meth c b i cells slots D A Q) : W p l e room_1 s m #[.ref b] below meth c H locs cells slots Q (F0 m 435 ls []) := by
  have hx := hc.1
  have hb := hc.2.1
  refine lv_aload_n hx hb d_law_435 rfl (lv_at hl 1 rfl) ?_
  refine l_arg hc hX hbl hbA hL hw hl (j := 1) (by omega) d_law_436 d_law_437 d_law_438 (by decide) d_law_439 d_law_440 ?_
  refine kWV hc hw lk_law_45 (h := 0) (As := [.int (xs (i + 1))]) (rest := []) (c_AP_burn l D g F pc lf lw cn fr to hv dy an af ln sz ce tr ft hG hC (xs (i + 1))) (rc_AP hw) ⟨Nat.le_of_ble_eq_true rfl, Nat.le_of_ble_eq_true rfl⟩ ⟨by show cells + 0 ≤ 600000; omega, by show slots + 0 ≤ 7302250; omega⟩ rfl hl rfl (Nat.le_of_ble_eq_true rfl) d_law_441 (fun v9 g1 F1 H locs hp hw => ?_)
  obtain ⟨rfl, rfl, hC1, hf1⟩ := hp
  have hM1 := MI_c hM (fun k h1 h2 => hf1 k (Or.inr (by omega)))
  refine lv_aload_n hx hb d_law_444 rfl (lv_at hl 2 rfl) ?_
  refine l_arg hc hX hbl hbA hL hw hl (j := 1) (by omega) d_law_445 d_law_446 d_law_447 (by decide) d_law_448 d_law_449 ?_
  refine kWV hc hw lk_law_48 (h := 58) (As := [.int (xs (i + 1))]) (rest := [_]) (c_MO_burn l D g F1 pc lf lw cn fr to hv dy an af ln sz ce tr ft hG hM1 (xs (i + 1))) (rc_MO hw) ⟨Nat.le_of_ble_eq_true rfl, Nat.le_of_ble_eq_true rfl⟩ ⟨by show cells + 0 ≤ 600000; omega, by show slots + 0 ≤ 7302250; omega⟩ rfl hl rfl (Nat.le_of_ble_eq_true rfl) d_law_450 (fun v9 g1 F2 H locs hp hw => ?_)
  obtain ⟨rfl, rfl, hM2, hf2⟩ := hp
  have hC2 := CI_c hC1 (fun k hk => hf2 k hk)
  refine lv_icmp_eq (tgt := 1296) hx hb d_law_453 (by decide) (fun _ => ?_) (fun h9 => absurd rfl h9)
  exact W.widen (by omega) (by omega) (kk g _ _ _ _ _ _ _ _ _ _ (GI_burn hG _) hC2 hM2 hw hl)
theorem lc_8 (hc : CallFix p m c code 4 s #[.ref b] gws R_law0) (hX : va_X b L xs s s.heap) (hbl : b < s.heap.size) (hbA : ¬ A b) (hL : L ≤ 4096) (hi : i + 8 ≤ L) (hce : cells + 6 ≤ 600000) (hsl : slots + 12 ≤ 7302250) (pc : Nat) (lf : Nat → Nat) (lw : Nat) (cn : Nat) (fr to hv dy : Nat → Nat) (an af : Nat → Option Nat) (ln : Nat → Option Nat) (sz : Nat → Nat) (ce : Nat → Nat → Int32) (tr ft : Int32) (hG : GI g (pc, lf) lw (cn, fr, to, hv, dy, an, af) (ln, sz, ce)) (hC : CI g F (pc, lf) lw (cn, fr, to, hv, dy, an, af) (ln, sz, ce) tr ft) (hM : MI g F (pc, lf) lw (cn, fr, to, hv, dy, an, af) (ln, sz, ce) tr ft) (hw : Wd D g F A s.heap H locs s) (hl : lv_has ls 4 [(0, .ref b), (1, .ref (wad g 0)), (2, .ref (wad g 58)), (3, .int (nI i))]) (kk : lw_K p l e s m below meth c b i cells slots D A Q) : W p l e room_1 s m #[.ref b] below meth c H locs cells slots Q (F0 m 458 ls []) := by
  have hx := hc.1
  have hb := hc.2.1
  refine lv_aload_n hx hb d_law_458 rfl (lv_at hl 1 rfl) ?_
  refine l_arg hc hX hbl hbA hL hw hl (j := 1) (by omega) d_law_459 d_law_460 d_law_461 (by decide) d_law_462 d_law_463 ?_
  refine l_arg hc hX hbl hbA hL hw hl (j := 2) (by omega) d_law_464 d_law_465 d_law_466 (by decide) d_law_467 d_law_468 ?_
  refine kRV hc hw lk_law_49 (h := 0) (As := [.int (xs (i + 1)), .int (xs (i + 2))]) (rest := []) (c_AP_paid l D g F pc lf lw cn fr to hv dy an af ln sz ce tr ft hG hC (xs (i + 1)) (xs (i + 2))) (rc_AP hw) ⟨Nat.le_of_ble_eq_true rfl, Nat.le_of_ble_eq_true rfl⟩ ⟨by show cells + 0 ≤ 600000; omega, by show slots + 0 ≤ 7302250; omega⟩ rfl hl rfl (Nat.le_of_ble_eq_true rfl) d_law_469 ?_
  refine lv_aload_n hx hb d_law_472 rfl (lv_at hl 2 rfl) ?_
  refine l_arg hc hX hbl hbA hL hw hl (j := 1) (by omega) d_law_473 d_law_474 d_law_475 (by decide) d_law_476 d_law_477 ?_
  refine l_arg hc hX hbl hbA hL hw hl (j := 2) (by omega) d_law_478 d_law_479 d_law_480 (by decide) d_law_481 d_law_482 ?_
  refine kRV hc hw lk_law_52 (h := 58) (As := [.int (xs (i + 1)), .int (xs (i + 2))]) (rest := [_]) (c_MO_paid l D g F pc lf lw cn fr to hv dy an af ln sz ce tr ft hG hM (xs (i + 1)) (xs (i + 2))) (rc_MO hw) ⟨Nat.le_of_ble_eq_true rfl, Nat.le_of_ble_eq_true rfl⟩ ⟨by show cells + 0 ≤ 600000; omega, by show slots + 0 ≤ 7302250; omega⟩ rfl hl rfl (Nat.le_of_ble_eq_true rfl) d_law_483 ?_
  refine lv_icmp_eq (tgt := 1296) hx hb d_law_486 (by decide) (fun _ => ?_) (fun h9 => absurd rfl h9)
  exact W.widen (by omega) (by omega) (kk g _ _ _ _ _ _ _ _ _ _ (hG) hC hM hw hl)
theorem lc_9 (hc : CallFix p m c code 4 s #[.ref b] gws R_law0) (hX : va_X b L xs s s.heap) (hbl : b < s.heap.size) (hbA : ¬ A b) (hL : L ≤ 4096) (hi : i + 8 ≤ L) (hce : cells + 6 ≤ 600000) (hsl : slots + 12 ≤ 7302250) (pc : Nat) (lf : Nat → Nat) (lw : Nat) (cn : Nat) (fr to hv dy : Nat → Nat) (an af : Nat → Option Nat) (ln : Nat → Option Nat) (sz : Nat → Nat) (ce : Nat → Nat → Int32) (tr ft : Int32) (hG : GI g (pc, lf) lw (cn, fr, to, hv, dy, an, af) (ln, sz, ce)) (hC : CI g F (pc, lf) lw (cn, fr, to, hv, dy, an, af) (ln, sz, ce) tr ft) (hM : MI g F (pc, lf) lw (cn, fr, to, hv, dy, an, af) (ln, sz, ce) tr ft) (hw : Wd D g F A s.heap H locs s) (hl : lv_has ls 4 [(0, .ref b), (1, .ref (wad g 0)), (2, .ref (wad g 58)), (3, .int (nI i))]) (kk : lw_K p l e s m below meth c b i cells slots D A Q) : W p l e room_1 s m #[.ref b] below meth c H locs cells slots Q (F0 m 491 ls []) := by
  have hx := hc.1
  have hb := hc.2.1
  refine lv_aload_n hx hb d_law_491 rfl (lv_at hl 1 rfl) ?_
  refine l_arg hc hX hbl hbA hL hw hl (j := 1) (by omega) d_law_492 d_law_493 d_law_494 (by decide) d_law_495 d_law_496 ?_
  refine l_arg hc hX hbl hbA hL hw hl (j := 2) (by omega) d_law_497 d_law_498 d_law_499 (by decide) d_law_500 d_law_501 ?_
  refine l_arg hc hX hbl hbA hL hw hl (j := 3) (by omega) d_law_502 d_law_503 d_law_504 (by decide) d_law_505 d_law_506 ?_
  refine kRV hc hw lk_law_53 (h := 0) (As := [.int (xs (i + 1)), .int (xs (i + 2)), .int (xs (i + 3))]) (rest := []) (c_AP_owes l D g F pc lf lw cn fr to hv dy an af ln sz ce tr ft hG hC (xs (i + 1)) (xs (i + 2)) (xs (i + 3))) (rc_AP hw) ⟨Nat.le_of_ble_eq_true rfl, Nat.le_of_ble_eq_true rfl⟩ ⟨by show cells + 0 ≤ 600000; omega, by show slots + 0 ≤ 7302250; omega⟩ rfl hl rfl (Nat.le_of_ble_eq_true rfl) d_law_507 ?_
  refine lv_aload_n hx hb d_law_510 rfl (lv_at hl 2 rfl) ?_
  refine l_arg hc hX hbl hbA hL hw hl (j := 1) (by omega) d_law_511 d_law_512 d_law_513 (by decide) d_law_514 d_law_515 ?_
  refine l_arg hc hX hbl hbA hL hw hl (j := 2) (by omega) d_law_516 d_law_517 d_law_518 (by decide) d_law_519 d_law_520 ?_
  refine l_arg hc hX hbl hbA hL hw hl (j := 3) (by omega) d_law_521 d_law_522 d_law_523 (by decide) d_law_524 d_law_525 ?_
  refine kRV hc hw lk_law_56 (h := 58) (As := [.int (xs (i + 1)), .int (xs (i + 2)), .int (xs (i + 3))]) (rest := [_]) (c_MO_owes l D g F pc lf lw cn fr to hv dy an af ln sz ce tr ft hG hM (xs (i + 1)) (xs (i + 2)) (xs (i + 3))) (rc_MO hw) ⟨Nat.le_of_ble_eq_true rfl, Nat.le_of_ble_eq_true rfl⟩ ⟨by show cells + 0 ≤ 600000; omega, by show slots + 0 ≤ 7302250; omega⟩ rfl hl rfl (Nat.le_of_ble_eq_true rfl) d_law_526 ?_
  refine lv_icmp_eq (tgt := 1296) hx hb d_law_529 (by decide) (fun _ => ?_) (fun h9 => absurd rfl h9)
  exact W.widen (by omega) (by omega) (kk g _ _ _ _ _ _ _ _ _ _ (hG) hC hM hw hl)
theorem lc_10 (hc : CallFix p m c code 4 s #[.ref b] gws R_law0) (hX : va_X b L xs s s.heap) (hbl : b < s.heap.size) (hbA : ¬ A b) (hL : L ≤ 4096) (hi : i + 8 ≤ L) (hce : cells + 6 ≤ 600000) (hsl : slots + 12 ≤ 7302250) (pc : Nat) (lf : Nat → Nat) (lw : Nat) (cn : Nat) (fr to hv dy : Nat → Nat) (an af : Nat → Option Nat) (ln : Nat → Option Nat) (sz : Nat → Nat) (ce : Nat → Nat → Int32) (tr ft : Int32) (hG : GI g (pc, lf) lw (cn, fr, to, hv, dy, an, af) (ln, sz, ce)) (hC : CI g F (pc, lf) lw (cn, fr, to, hv, dy, an, af) (ln, sz, ce) tr ft) (hM : MI g F (pc, lf) lw (cn, fr, to, hv, dy, an, af) (ln, sz, ce) tr ft) (hw : Wd D g F A s.heap H locs s) (hl : lv_has ls 4 [(0, .ref b), (1, .ref (wad g 0)), (2, .ref (wad g 58)), (3, .int (nI i))]) (kk : lw_K p l e s m below meth c b i cells slots D A Q) : W p l e room_1 s m #[.ref b] below meth c H locs cells slots Q (F0 m 534 ls []) := by
  have hx := hc.1
  have hb := hc.2.1
  refine lv_aload_n hx hb d_law_534 rfl (lv_at hl 1 rfl) ?_
  refine l_arg hc hX hbl hbA hL hw hl (j := 1) (by omega) d_law_535 d_law_536 d_law_537 (by decide) d_law_538 d_law_539 ?_
  refine l_arg hc hX hbl hbA hL hw hl (j := 2) (by omega) d_law_540 d_law_541 d_law_542 (by decide) d_law_543 d_law_544 ?_
  refine kRV hc hw lk_law_57 (h := 0) (As := [.int (xs (i + 1)), .int (xs (i + 2))]) (rest := []) (c_AP_net l D g F pc lf lw cn fr to hv dy an af ln sz ce tr ft hG hC (xs (i + 1)) (xs (i + 2))) (rc_AP hw) ⟨Nat.le_of_ble_eq_true rfl, Nat.le_of_ble_eq_true rfl⟩ ⟨by show cells + 0 ≤ 600000; omega, by show slots + 0 ≤ 7302250; omega⟩ rfl hl rfl (Nat.le_of_ble_eq_true rfl) d_law_545 ?_
  refine lv_aload_n hx hb d_law_548 rfl (lv_at hl 2 rfl) ?_
  refine l_arg hc hX hbl hbA hL hw hl (j := 1) (by omega) d_law_549 d_law_550 d_law_551 (by decide) d_law_552 d_law_553 ?_
  refine l_arg hc hX hbl hbA hL hw hl (j := 2) (by omega) d_law_554 d_law_555 d_law_556 (by decide) d_law_557 d_law_558 ?_
  refine kRV hc hw lk_law_60 (h := 58) (As := [.int (xs (i + 1)), .int (xs (i + 2))]) (rest := [_]) (c_MO_net l D g F pc lf lw cn fr to hv dy an af ln sz ce tr ft hG hM (xs (i + 1)) (xs (i + 2))) (rc_MO hw) ⟨Nat.le_of_ble_eq_true rfl, Nat.le_of_ble_eq_true rfl⟩ ⟨by show cells + 0 ≤ 600000; omega, by show slots + 0 ≤ 7302250; omega⟩ rfl hl rfl (Nat.le_of_ble_eq_true rfl) d_law_559 ?_
  refine lv_icmp_eq (tgt := 1296) hx hb d_law_562 (by decide) (fun _ => ?_) (fun h9 => absurd rfl h9)
  exact W.widen (by omega) (by omega) (kk g _ _ _ _ _ _ _ _ _ _ (hG) hC hM hw hl)
theorem lc_11 (hc : CallFix p m c code 4 s #[.ref b] gws R_law0) (hX : va_X b L xs s s.heap) (hbl : b < s.heap.size) (hbA : ¬ A b) (hL : L ≤ 4096) (hi : i + 8 ≤ L) (hce : cells + 6 ≤ 600000) (hsl : slots + 12 ≤ 7302250) (pc : Nat) (lf : Nat → Nat) (lw : Nat) (cn : Nat) (fr to hv dy : Nat → Nat) (an af : Nat → Option Nat) (ln : Nat → Option Nat) (sz : Nat → Nat) (ce : Nat → Nat → Int32) (tr ft : Int32) (hG : GI g (pc, lf) lw (cn, fr, to, hv, dy, an, af) (ln, sz, ce)) (hC : CI g F (pc, lf) lw (cn, fr, to, hv, dy, an, af) (ln, sz, ce) tr ft) (hM : MI g F (pc, lf) lw (cn, fr, to, hv, dy, an, af) (ln, sz, ce) tr ft) (hw : Wd D g F A s.heap H locs s) (hl : lv_has ls 4 [(0, .ref b), (1, .ref (wad g 0)), (2, .ref (wad g 58)), (3, .int (nI i))]) (kk : lw_K p l e s m below meth c b i cells slots D A Q) : W p l e room_1 s m #[.ref b] below meth c H locs cells slots Q (F0 m 567 ls []) := by
  have hx := hc.1
  have hb := hc.2.1
  refine lv_aload_n hx hb d_law_567 rfl (lv_at hl 1 rfl) ?_
  refine l_arg hc hX hbl hbA hL hw hl (j := 1) (by omega) d_law_568 d_law_569 d_law_570 (by decide) d_law_571 d_law_572 ?_
  refine kWV hc hw lk_law_61 (h := 0) (As := [.int (xs (i + 1))]) (rest := []) (c_AP_settled l D g F pc lf lw cn fr to hv dy an af ln sz ce tr ft hG hC (xs (i + 1))) (rc_AP hw) ⟨Nat.le_of_ble_eq_true rfl, Nat.le_of_ble_eq_true rfl⟩ ⟨by show cells + 0 ≤ 600000; omega, by show slots + 0 ≤ 7302250; omega⟩ rfl hl rfl (Nat.le_of_ble_eq_true rfl) d_law_573 (fun v9 g1 F1 H locs hp hw => ?_)
  obtain ⟨rfl, rfl, hC1, hf1⟩ := hp
  have hM1 := MI_c hM (fun k h1 h2 => hf1 k (Or.inr (by omega)))
  refine lv_aload_n hx hb d_law_576 rfl (lv_at hl 2 rfl) ?_
  refine l_arg hc hX hbl hbA hL hw hl (j := 1) (by omega) d_law_577 d_law_578 d_law_579 (by decide) d_law_580 d_law_581 ?_
  refine kWV hc hw lk_law_64 (h := 58) (As := [.int (xs (i + 1))]) (rest := [_]) (c_MO_settled l D g F1 pc lf lw cn fr to hv dy an af ln sz ce tr ft hG hM1 (xs (i + 1))) (rc_MO hw) ⟨Nat.le_of_ble_eq_true rfl, Nat.le_of_ble_eq_true rfl⟩ ⟨by show cells + 0 ≤ 600000; omega, by show slots + 0 ≤ 7302250; omega⟩ rfl hl rfl (Nat.le_of_ble_eq_true rfl) d_law_582 (fun v9 g1 F2 H locs hp hw => ?_)
  obtain ⟨rfl, rfl, hM2, hf2⟩ := hp
  have hC2 := CI_c hC1 (fun k hk => hf2 k hk)
  refine lv_icmp_eq (tgt := 1296) hx hb d_law_585 (by decide) (fun _ => ?_) (fun h9 => absurd rfl h9)
  exact W.widen (by omega) (by omega) (kk g _ _ _ _ _ _ _ _ _ _ (hG) hC2 hM2 hw hl)
theorem lc_12 (hc : CallFix p m c code 4 s #[.ref b] gws R_law0) (hX : va_X b L xs s s.heap) (hbl : b < s.heap.size) (hbA : ¬ A b) (hL : L ≤ 4096) (hi : i + 8 ≤ L) (hce : cells + 6 ≤ 600000) (hsl : slots + 12 ≤ 7302250) (pc : Nat) (lf : Nat → Nat) (lw : Nat) (cn : Nat) (fr to hv dy : Nat → Nat) (an af : Nat → Option Nat) (ln : Nat → Option Nat) (sz : Nat → Nat) (ce : Nat → Nat → Int32) (tr ft : Int32) (hG : GI g (pc, lf) lw (cn, fr, to, hv, dy, an, af) (ln, sz, ce)) (hC : CI g F (pc, lf) lw (cn, fr, to, hv, dy, an, af) (ln, sz, ce) tr ft) (hM : MI g F (pc, lf) lw (cn, fr, to, hv, dy, an, af) (ln, sz, ce) tr ft) (hw : Wd D g F A s.heap H locs s) (hl : lv_has ls 4 [(0, .ref b), (1, .ref (wad g 0)), (2, .ref (wad g 58)), (3, .int (nI i))]) (kk : lw_K p l e s m below meth c b i cells slots D A Q) : W p l e room_1 s m #[.ref b] below meth c H locs cells slots Q (F0 m 590 ls []) := by
  have hx := hc.1
  have hb := hc.2.1
  refine lv_aload_n hx hb d_law_590 rfl (lv_at hl 1 rfl) ?_
  refine l_arg hc hX hbl hbA hL hw hl (j := 1) (by omega) d_law_591 d_law_592 d_law_593 (by decide) d_law_594 d_law_595 ?_
  refine l_arg hc hX hbl hbA hL hw hl (j := 2) (by omega) d_law_596 d_law_597 d_law_598 (by decide) d_law_599 d_law_600 ?_
  refine l_arg hc hX hbl hbA hL hw hl (j := 3) (by omega) d_law_601 d_law_602 d_law_603 (by decide) d_law_604 d_law_605 ?_
  refine kRV hc hw lk_law_65 (h := 0) (As := [.int (xs (i + 1)), .int (xs (i + 2)), .int (xs (i + 3))]) (rest := []) (c_AP_best l D g F pc lf lw cn fr to hv dy an af ln sz ce tr ft hG hC (xs (i + 1)) (xs (i + 2)) (xs (i + 3))) (rc_AP hw) ⟨Nat.le_of_ble_eq_true rfl, Nat.le_of_ble_eq_true rfl⟩ ⟨by show cells + 0 ≤ 600000; omega, by show slots + 0 ≤ 7302250; omega⟩ rfl hl rfl (Nat.le_of_ble_eq_true rfl) d_law_606 ?_
  refine lv_aload_n hx hb d_law_609 rfl (lv_at hl 2 rfl) ?_
  refine l_arg hc hX hbl hbA hL hw hl (j := 1) (by omega) d_law_610 d_law_611 d_law_612 (by decide) d_law_613 d_law_614 ?_
  refine l_arg hc hX hbl hbA hL hw hl (j := 2) (by omega) d_law_615 d_law_616 d_law_617 (by decide) d_law_618 d_law_619 ?_
  refine l_arg hc hX hbl hbA hL hw hl (j := 3) (by omega) d_law_620 d_law_621 d_law_622 (by decide) d_law_623 d_law_624 ?_
  refine kWV hc hw lk_law_68 (h := 58) (As := [.int (xs (i + 1)), .int (xs (i + 2)), .int (xs (i + 3))]) (rest := [_]) (c_MO_best l D g F pc lf lw cn fr to hv dy an af ln sz ce tr ft hG hM (xs (i + 1)) (xs (i + 2)) (xs (i + 3))) (rc_MO hw) ⟨Nat.le_of_ble_eq_true rfl, Nat.le_of_ble_eq_true rfl⟩ ⟨by show cells + 0 ≤ 600000; omega, by show slots + 0 ≤ 7302250; omega⟩ rfl hl rfl (Nat.le_of_ble_eq_true rfl) d_law_625 (fun v9 g1 F2 H locs hp hw => ?_)
  obtain ⟨rfl, rfl, hM2, hf2⟩ := hp
  have hC2 := CI_c hC (fun k hk => hf2 k hk)
  refine lv_icmp_eq (tgt := 1296) hx hb d_law_628 (by decide) (fun _ => ?_) (fun h9 => absurd rfl h9)
  exact W.widen (by omega) (by omega) (kk g _ _ _ _ _ _ _ _ _ _ (hG) hC2 hM2 hw hl)
theorem lc_13 (hc : CallFix p m c code 4 s #[.ref b] gws R_law0) (hX : va_X b L xs s s.heap) (hbl : b < s.heap.size) (hbA : ¬ A b) (hL : L ≤ 4096) (hi : i + 8 ≤ L) (hce : cells + 6 ≤ 600000) (hsl : slots + 12 ≤ 7302250) (pc : Nat) (lf : Nat → Nat) (lw : Nat) (cn : Nat) (fr to hv dy : Nat → Nat) (an af : Nat → Option Nat) (ln : Nat → Option Nat) (sz : Nat → Nat) (ce : Nat → Nat → Int32) (tr ft : Int32) (hG : GI g (pc, lf) lw (cn, fr, to, hv, dy, an, af) (ln, sz, ce)) (hC : CI g F (pc, lf) lw (cn, fr, to, hv, dy, an, af) (ln, sz, ce) tr ft) (hM : MI g F (pc, lf) lw (cn, fr, to, hv, dy, an, af) (ln, sz, ce) tr ft) (hw : Wd D g F A s.heap H locs s) (hl : lv_has ls 4 [(0, .ref b), (1, .ref (wad g 0)), (2, .ref (wad g 58)), (3, .int (nI i))]) (kk : lw_K p l e s m below meth c b i cells slots D A Q) : W p l e room_1 s m #[.ref b] below meth c H locs cells slots Q (F0 m 633 ls []) := by
  have hx := hc.1
  have hb := hc.2.1
  refine lv_aload_n hx hb d_law_633 rfl (lv_at hl 1 rfl) ?_
  refine l_arg hc hX hbl hbA hL hw hl (j := 1) (by omega) d_law_634 d_law_635 d_law_636 (by decide) d_law_637 d_law_638 ?_
  refine l_arg hc hX hbl hbA hL hw hl (j := 2) (by omega) d_law_639 d_law_640 d_law_641 (by decide) d_law_642 d_law_643 ?_
  refine l_arg hc hX hbl hbA hL hw hl (j := 3) (by omega) d_law_644 d_law_645 d_law_646 (by decide) d_law_647 d_law_648 ?_
  refine l_arg hc hX hbl hbA hL hw hl (j := 4) (by omega) d_law_649 d_law_650 d_law_651 (by decide) d_law_652 d_law_653 ?_
  refine l_arg hc hX hbl hbA hL hw hl (j := 5) (by omega) d_law_654 d_law_655 d_law_656 (by decide) d_law_657 d_law_658 ?_
  refine kWV hc hw lk_law_69 (h := 0) (As := [.int (xs (i + 1)), .int (xs (i + 2)), .int (xs (i + 3)), .int (xs (i + 4)), .int (xs (i + 5))]) (rest := []) (c_AP_course l D g F pc lf lw cn fr to hv dy an af ln sz ce tr ft hG hC (xs (i + 1)) (xs (i + 2)) (xs (i + 3)) (xs (i + 4)) (xs (i + 5))) (rc_AP hw) ⟨Nat.le_of_ble_eq_true rfl, Nat.le_of_ble_eq_true rfl⟩ ⟨by show cells + 0 ≤ 600000; omega, by show slots + 0 ≤ 7302250; omega⟩ rfl hl rfl (Nat.le_of_ble_eq_true rfl) d_law_659 (fun v9 g1 F1 H locs hp hw => ?_)
  obtain ⟨rfl, rfl, hC1, hf1⟩ := hp
  have hM1 := MI_c hM (fun k h1 h2 => hf1 k (Or.inr (by omega)))
  refine lv_aload_n hx hb d_law_662 rfl (lv_at hl 2 rfl) ?_
  refine l_arg hc hX hbl hbA hL hw hl (j := 1) (by omega) d_law_663 d_law_664 d_law_665 (by decide) d_law_666 d_law_667 ?_
  refine l_arg hc hX hbl hbA hL hw hl (j := 2) (by omega) d_law_668 d_law_669 d_law_670 (by decide) d_law_671 d_law_672 ?_
  refine l_arg hc hX hbl hbA hL hw hl (j := 3) (by omega) d_law_673 d_law_674 d_law_675 (by decide) d_law_676 d_law_677 ?_
  refine l_arg hc hX hbl hbA hL hw hl (j := 4) (by omega) d_law_678 d_law_679 d_law_680 (by decide) d_law_681 d_law_682 ?_
  refine l_arg hc hX hbl hbA hL hw hl (j := 5) (by omega) d_law_683 d_law_684 d_law_685 (by decide) d_law_686 d_law_687 ?_
  refine kWV hc hw lk_law_73 (h := 58) (As := [.int (xs (i + 1)), .int (xs (i + 2)), .int (xs (i + 3)), .int (xs (i + 4)), .int (xs (i + 5))]) (rest := [_]) (c_MO_course l D g F1 pc lf lw cn fr to hv dy an af ln sz ce tr ft hG hM1 (xs (i + 1)) (xs (i + 2)) (xs (i + 3)) (xs (i + 4)) (xs (i + 5))) (rc_MO hw) ⟨Nat.le_of_ble_eq_true rfl, Nat.le_of_ble_eq_true rfl⟩ ⟨by show cells + 0 ≤ 600000; omega, by show slots + 0 ≤ 7302250; omega⟩ rfl hl rfl (Nat.le_of_ble_eq_true rfl) d_law_688 (fun v9 g1 F2 H locs hp hw => ?_)
  obtain ⟨rfl, rfl, hM2, hf2⟩ := hp
  have hC2 := CI_c hC1 (fun k hk => hf2 k hk)
  refine lv_icmp_eq (tgt := 1296) hx hb d_law_691 (by decide) (fun _ => ?_) (fun h9 => absurd rfl h9)
  exact W.widen (by omega) (by omega) (kk g _ _ _ _ _ _ _ _ _ _ (hG) hC2 hM2 hw hl)
theorem lc_14 (hc : CallFix p m c code 4 s #[.ref b] gws R_law0) (hX : va_X b L xs s s.heap) (hbl : b < s.heap.size) (hbA : ¬ A b) (hL : L ≤ 4096) (hi : i + 8 ≤ L) (hce : cells + 6 ≤ 600000) (hsl : slots + 12 ≤ 7302250) (pc : Nat) (lf : Nat → Nat) (lw : Nat) (cn : Nat) (fr to hv dy : Nat → Nat) (an af : Nat → Option Nat) (ln : Nat → Option Nat) (sz : Nat → Nat) (ce : Nat → Nat → Int32) (tr ft : Int32) (hG : GI g (pc, lf) lw (cn, fr, to, hv, dy, an, af) (ln, sz, ce)) (hC : CI g F (pc, lf) lw (cn, fr, to, hv, dy, an, af) (ln, sz, ce) tr ft) (hM : MI g F (pc, lf) lw (cn, fr, to, hv, dy, an, af) (ln, sz, ce) tr ft) (hw : Wd D g F A s.heap H locs s) (hl : lv_has ls 4 [(0, .ref b), (1, .ref (wad g 0)), (2, .ref (wad g 58)), (3, .int (nI i))]) (kk : lw_K p l e s m below meth c b i cells slots D A Q) : W p l e room_1 s m #[.ref b] below meth c H locs cells slots Q (F0 m 696 ls []) := by
  have hx := hc.1
  have hb := hc.2.1
  refine lv_aload_n hx hb d_law_696 rfl (lv_at hl 1 rfl) ?_
  refine l_arg hc hX hbl hbA hL hw hl (j := 1) (by omega) d_law_697 d_law_698 d_law_699 (by decide) d_law_700 d_law_701 ?_
  refine l_arg hc hX hbl hbA hL hw hl (j := 2) (by omega) d_law_702 d_law_703 d_law_704 (by decide) d_law_705 d_law_706 ?_
  refine l_arg hc hX hbl hbA hL hw hl (j := 3) (by omega) d_law_707 d_law_708 d_law_709 (by decide) d_law_710 d_law_711 ?_
  refine l_arg hc hX hbl hbA hL hw hl (j := 4) (by omega) d_law_712 d_law_713 d_law_714 (by decide) d_law_715 d_law_716 ?_
  refine l_arg hc hX hbl hbA hL hw hl (j := 5) (by omega) d_law_717 d_law_718 d_law_719 (by decide) d_law_720 d_law_721 ?_
  refine kWV hc hw lk_law_74 (h := 0) (As := [.int (xs (i + 1)), .int (xs (i + 2)), .int (xs (i + 3)), .int (xs (i + 4)), .int (xs (i + 5))]) (rest := []) (c_AP_cost l D g F pc lf lw cn fr to hv dy an af ln sz ce tr ft hG hC (xs (i + 1)) (xs (i + 2)) (xs (i + 3)) (xs (i + 4)) (xs (i + 5))) (rc_AP hw) ⟨Nat.le_of_ble_eq_true rfl, Nat.le_of_ble_eq_true rfl⟩ ⟨by show cells + 0 ≤ 600000; omega, by show slots + 0 ≤ 7302250; omega⟩ rfl hl rfl (Nat.le_of_ble_eq_true rfl) d_law_722 (fun v9 g1 F1 H locs hp hw => ?_)
  obtain ⟨rfl, rfl, hC1, hf1⟩ := hp
  have hM1 := MI_c hM (fun k h1 h2 => hf1 k (Or.inr (by omega)))
  refine lv_aload_n hx hb d_law_725 rfl (lv_at hl 2 rfl) ?_
  refine l_arg hc hX hbl hbA hL hw hl (j := 1) (by omega) d_law_726 d_law_727 d_law_728 (by decide) d_law_729 d_law_730 ?_
  refine l_arg hc hX hbl hbA hL hw hl (j := 2) (by omega) d_law_731 d_law_732 d_law_733 (by decide) d_law_734 d_law_735 ?_
  refine l_arg hc hX hbl hbA hL hw hl (j := 3) (by omega) d_law_736 d_law_737 d_law_738 (by decide) d_law_739 d_law_740 ?_
  refine l_arg hc hX hbl hbA hL hw hl (j := 4) (by omega) d_law_741 d_law_742 d_law_743 (by decide) d_law_744 d_law_745 ?_
  refine l_arg hc hX hbl hbA hL hw hl (j := 5) (by omega) d_law_746 d_law_747 d_law_748 (by decide) d_law_749 d_law_750 ?_
  refine kWV hc hw lk_law_77 (h := 58) (As := [.int (xs (i + 1)), .int (xs (i + 2)), .int (xs (i + 3)), .int (xs (i + 4)), .int (xs (i + 5))]) (rest := [_]) (c_MO_cost l D g F1 pc lf lw cn fr to hv dy an af ln sz ce tr ft hG hM1 (xs (i + 1)) (xs (i + 2)) (xs (i + 3)) (xs (i + 4)) (xs (i + 5))) (rc_MO hw) ⟨Nat.le_of_ble_eq_true rfl, Nat.le_of_ble_eq_true rfl⟩ ⟨by show cells + 0 ≤ 600000; omega, by show slots + 0 ≤ 7302250; omega⟩ rfl hl rfl (Nat.le_of_ble_eq_true rfl) d_law_751 (fun v9 g1 F2 H locs hp hw => ?_)
  obtain ⟨rfl, rfl, hM2, hf2⟩ := hp
  have hC2 := CI_c hC1 (fun k hk => hf2 k hk)
  refine lv_icmp_eq (tgt := 1296) hx hb d_law_754 (by decide) (fun _ => ?_) (fun h9 => absurd rfl h9)
  exact W.widen (by omega) (by omega) (kk g _ _ _ _ _ _ _ _ _ _ (hG) hC2 hM2 hw hl)
theorem lc_15 (hc : CallFix p m c code 4 s #[.ref b] gws R_law0) (hX : va_X b L xs s s.heap) (hbl : b < s.heap.size) (hbA : ¬ A b) (hL : L ≤ 4096) (hi : i + 8 ≤ L) (hce : cells + 6 ≤ 600000) (hsl : slots + 12 ≤ 7302250) (pc : Nat) (lf : Nat → Nat) (lw : Nat) (cn : Nat) (fr to hv dy : Nat → Nat) (an af : Nat → Option Nat) (ln : Nat → Option Nat) (sz : Nat → Nat) (ce : Nat → Nat → Int32) (tr ft : Int32) (hG : GI g (pc, lf) lw (cn, fr, to, hv, dy, an, af) (ln, sz, ce)) (hC : CI g F (pc, lf) lw (cn, fr, to, hv, dy, an, af) (ln, sz, ce) tr ft) (hM : MI g F (pc, lf) lw (cn, fr, to, hv, dy, an, af) (ln, sz, ce) tr ft) (hw : Wd D g F A s.heap H locs s) (hl : lv_has ls 4 [(0, .ref b), (1, .ref (wad g 0)), (2, .ref (wad g 58)), (3, .int (nI i))]) (kk : lw_K p l e s m below meth c b i cells slots D A Q) : W p l e room_1 s m #[.ref b] below meth c H locs cells slots Q (F0 m 759 ls []) := by
  have hx := hc.1
  have hb := hc.2.1
  refine lv_aload_n hx hb d_law_759 rfl (lv_at hl 1 rfl) ?_
  refine l_arg hc hX hbl hbA hL hw hl (j := 1) (by omega) d_law_760 d_law_761 d_law_762 (by decide) d_law_763 d_law_764 ?_
  refine l_arg hc hX hbl hbA hL hw hl (j := 2) (by omega) d_law_765 d_law_766 d_law_767 (by decide) d_law_768 d_law_769 ?_
  refine l_arg hc hX hbl hbA hL hw hl (j := 3) (by omega) d_law_770 d_law_771 d_law_772 (by decide) d_law_773 d_law_774 ?_
  refine l_arg hc hX hbl hbA hL hw hl (j := 4) (by omega) d_law_775 d_law_776 d_law_777 (by decide) d_law_778 d_law_779 ?_
  refine l_arg hc hX hbl hbA hL hw hl (j := 5) (by omega) d_law_780 d_law_781 d_law_782 (by decide) d_law_783 d_law_784 ?_
  refine l_argb hc hX hbl hbA hL hw hl (j := 6) (by omega) d_law_785 d_law_786 d_law_787 (by decide) d_law_789 d_law_790 ?_
  refine l_argb hc hX hbl hbA hL hw hl (j := 7) (by omega) d_law_791 d_law_792 d_law_793 (by decide) d_law_795 d_law_796 ?_
  refine kWV hc hw lk_law_78 (h := 0) (As := [.int (xs (i + 1)), .int (xs (i + 2)), .int (xs (i + 3)), .int (xs (i + 4)), .int (xs (i + 5)), .int (xs (i + 6)), .int (xs (i + 7))]) (rest := []) (c_AP_split l D g F pc lf lw cn fr to hv dy an af ln sz ce tr ft hG hC (xs (i + 1)) (xs (i + 2)) (xs (i + 3)) (xs (i + 4)) (xs (i + 5)) (xs (i + 6)) (xs (i + 7))) (rc_AP hw) ⟨Nat.le_of_ble_eq_true rfl, Nat.le_of_ble_eq_true rfl⟩ ⟨by show cells + 0 ≤ 600000; omega, by show slots + 0 ≤ 7302250; omega⟩ rfl hl rfl (Nat.le_of_ble_eq_true rfl) d_law_797 (fun v9 g1 F1 H locs hp hw => ?_)
  obtain ⟨rfl, rfl, hC1, hf1⟩ := hp
  have hM1 := MI_c hM (fun k h1 h2 => hf1 k (Or.inr (by omega)))
  refine lv_aload_n hx hb d_law_800 rfl (lv_at hl 2 rfl) ?_
  refine l_arg hc hX hbl hbA hL hw hl (j := 1) (by omega) d_law_801 d_law_802 d_law_803 (by decide) d_law_804 d_law_805 ?_
  refine l_arg hc hX hbl hbA hL hw hl (j := 2) (by omega) d_law_806 d_law_807 d_law_808 (by decide) d_law_809 d_law_810 ?_
  refine l_arg hc hX hbl hbA hL hw hl (j := 3) (by omega) d_law_811 d_law_812 d_law_813 (by decide) d_law_814 d_law_815 ?_
  refine l_arg hc hX hbl hbA hL hw hl (j := 4) (by omega) d_law_816 d_law_817 d_law_818 (by decide) d_law_819 d_law_820 ?_
  refine l_arg hc hX hbl hbA hL hw hl (j := 5) (by omega) d_law_821 d_law_822 d_law_823 (by decide) d_law_824 d_law_825 ?_
  refine l_argb hc hX hbl hbA hL hw hl (j := 6) (by omega) d_law_826 d_law_827 d_law_828 (by decide) d_law_830 d_law_831 ?_
  refine l_argb hc hX hbl hbA hL hw hl (j := 7) (by omega) d_law_832 d_law_833 d_law_834 (by decide) d_law_836 d_law_837 ?_
  refine kWV hc hw lk_law_82 (h := 58) (As := [.int (xs (i + 1)), .int (xs (i + 2)), .int (xs (i + 3)), .int (xs (i + 4)), .int (xs (i + 5)), .int (xs (i + 6)), .int (xs (i + 7))]) (rest := [_]) (c_MO_split l D g F1 pc lf lw cn fr to hv dy an af ln sz ce tr ft hG hM1 (xs (i + 1)) (xs (i + 2)) (xs (i + 3)) (xs (i + 4)) (xs (i + 5)) (xs (i + 6)) (xs (i + 7))) (rc_MO hw) ⟨Nat.le_of_ble_eq_true rfl, Nat.le_of_ble_eq_true rfl⟩ ⟨by show cells + 0 ≤ 600000; omega, by show slots + 0 ≤ 7302250; omega⟩ rfl hl rfl (Nat.le_of_ble_eq_true rfl) d_law_838 (fun v9 g1 F2 H locs hp hw => ?_)
  obtain ⟨rfl, rfl, hM2, hf2⟩ := hp
  have hC2 := CI_c hC1 (fun k hk => hf2 k hk)
  refine lv_icmp_eq (tgt := 1296) hx hb d_law_841 (by decide) (fun _ => ?_) (fun h9 => absurd rfl h9)
  exact W.widen (by omega) (by omega) (kk g _ _ _ _ _ _ _ _ _ _ (hG) hC2 hM2 hw hl)
theorem lc_16 (hc : CallFix p m c code 4 s #[.ref b] gws R_law0) (hX : va_X b L xs s s.heap) (hbl : b < s.heap.size) (hbA : ¬ A b) (hL : L ≤ 4096) (hi : i + 8 ≤ L) (hce : cells + 6 ≤ 600000) (hsl : slots + 12 ≤ 7302250) (pc : Nat) (lf : Nat → Nat) (lw : Nat) (cn : Nat) (fr to hv dy : Nat → Nat) (an af : Nat → Option Nat) (ln : Nat → Option Nat) (sz : Nat → Nat) (ce : Nat → Nat → Int32) (tr ft : Int32) (hG : GI g (pc, lf) lw (cn, fr, to, hv, dy, an, af) (ln, sz, ce)) (hC : CI g F (pc, lf) lw (cn, fr, to, hv, dy, an, af) (ln, sz, ce) tr ft) (hM : MI g F (pc, lf) lw (cn, fr, to, hv, dy, an, af) (ln, sz, ce) tr ft) (hw : Wd D g F A s.heap H locs s) (hl : lv_has ls 4 [(0, .ref b), (1, .ref (wad g 0)), (2, .ref (wad g 58)), (3, .int (nI i))]) (kk : lw_K p l e s m below meth c b i cells slots D A Q) : W p l e room_1 s m #[.ref b] below meth c H locs cells slots Q (F0 m 846 ls []) := by
  have hx := hc.1
  have hb := hc.2.1
  refine lv_aload_n hx hb d_law_846 rfl (lv_at hl 1 rfl) ?_
  refine l_arg hc hX hbl hbA hL hw hl (j := 1) (by omega) d_law_847 d_law_848 d_law_849 (by decide) d_law_850 d_law_851 ?_
  refine l_arg hc hX hbl hbA hL hw hl (j := 2) (by omega) d_law_852 d_law_853 d_law_854 (by decide) d_law_855 d_law_856 ?_
  refine l_arg hc hX hbl hbA hL hw hl (j := 3) (by omega) d_law_857 d_law_858 d_law_859 (by decide) d_law_860 d_law_861 ?_
  refine kRV hc hw lk_law_83 (h := 0) (As := [.int (xs (i + 1)), .int (xs (i + 2)), .int (xs (i + 3))]) (rest := []) (c_AP_least l D g F pc lf lw cn fr to hv dy an af ln sz ce tr ft hG hC (xs (i + 1)) (xs (i + 2)) (xs (i + 3))) (rc_AP hw) ⟨Nat.le_of_ble_eq_true rfl, Nat.le_of_ble_eq_true rfl⟩ ⟨by show cells + 0 ≤ 600000; omega, by show slots + 0 ≤ 7302250; omega⟩ rfl hl rfl (Nat.le_of_ble_eq_true rfl) d_law_862 ?_
  refine lv_aload_n hx hb d_law_865 rfl (lv_at hl 2 rfl) ?_
  refine l_arg hc hX hbl hbA hL hw hl (j := 1) (by omega) d_law_866 d_law_867 d_law_868 (by decide) d_law_869 d_law_870 ?_
  refine l_arg hc hX hbl hbA hL hw hl (j := 2) (by omega) d_law_871 d_law_872 d_law_873 (by decide) d_law_874 d_law_875 ?_
  refine l_arg hc hX hbl hbA hL hw hl (j := 3) (by omega) d_law_876 d_law_877 d_law_878 (by decide) d_law_879 d_law_880 ?_
  refine kWV hc hw lk_law_86 (h := 58) (As := [.int (xs (i + 1)), .int (xs (i + 2)), .int (xs (i + 3))]) (rest := [_]) (c_MO_least l D g F pc lf lw cn fr to hv dy an af ln sz ce tr ft hG hM (xs (i + 1)) (xs (i + 2)) (xs (i + 3))) (rc_MO hw) ⟨Nat.le_of_ble_eq_true rfl, Nat.le_of_ble_eq_true rfl⟩ ⟨by show cells + 0 ≤ 600000; omega, by show slots + 0 ≤ 7302250; omega⟩ rfl hl rfl (Nat.le_of_ble_eq_true rfl) d_law_881 (fun v9 g1 F2 H locs hp hw => ?_)
  obtain ⟨rfl, rfl, hM2, hf2⟩ := hp
  have hC2 := CI_c hC (fun k hk => hf2 k hk)
  refine lv_icmp_eq (tgt := 1296) hx hb d_law_884 (by decide) (fun _ => ?_) (fun h9 => absurd rfl h9)
  exact W.widen (by omega) (by omega) (kk g _ _ _ _ _ _ _ _ _ _ (hG) hC2 hM2 hw hl)
theorem lc_17 (hc : CallFix p m c code 4 s #[.ref b] gws R_law0) (hX : va_X b L xs s s.heap) (hbl : b < s.heap.size) (hbA : ¬ A b) (hL : L ≤ 4096) (hi : i + 8 ≤ L) (hce : cells + 6 ≤ 600000) (hsl : slots + 12 ≤ 7302250) (pc : Nat) (lf : Nat → Nat) (lw : Nat) (cn : Nat) (fr to hv dy : Nat → Nat) (an af : Nat → Option Nat) (ln : Nat → Option Nat) (sz : Nat → Nat) (ce : Nat → Nat → Int32) (tr ft : Int32) (hG : GI g (pc, lf) lw (cn, fr, to, hv, dy, an, af) (ln, sz, ce)) (hC : CI g F (pc, lf) lw (cn, fr, to, hv, dy, an, af) (ln, sz, ce) tr ft) (hM : MI g F (pc, lf) lw (cn, fr, to, hv, dy, an, af) (ln, sz, ce) tr ft) (hw : Wd D g F A s.heap H locs s) (hl : lv_has ls 4 [(0, .ref b), (1, .ref (wad g 0)), (2, .ref (wad g 58)), (3, .int (nI i))]) (kk : lw_K p l e s m below meth c b i cells slots D A Q) : W p l e room_1 s m #[.ref b] below meth c H locs cells slots Q (F0 m 889 ls []) := by
  have hx := hc.1
  have hb := hc.2.1
  refine lv_aload_n hx hb d_law_889 rfl (lv_at hl 1 rfl) ?_
  refine l_arg hc hX hbl hbA hL hw hl (j := 1) (by omega) d_law_890 d_law_891 d_law_892 (by decide) d_law_893 d_law_894 ?_
  refine l_arg hc hX hbl hbA hL hw hl (j := 2) (by omega) d_law_895 d_law_896 d_law_897 (by decide) d_law_898 d_law_899 ?_
  refine l_arg hc hX hbl hbA hL hw hl (j := 3) (by omega) d_law_900 d_law_901 d_law_902 (by decide) d_law_903 d_law_904 ?_
  refine l_arg hc hX hbl hbA hL hw hl (j := 4) (by omega) d_law_905 d_law_906 d_law_907 (by decide) d_law_908 d_law_909 ?_
  refine l_arg hc hX hbl hbA hL hw hl (j := 5) (by omega) d_law_910 d_law_911 d_law_912 (by decide) d_law_913 d_law_914 ?_
  refine kRV hc hw lk_law_87 (h := 0) (As := [.int (xs (i + 1)), .int (xs (i + 2)), .int (xs (i + 3)), .int (xs (i + 4)), .int (xs (i + 5))]) (rest := []) (c_AP_weights l D g F pc lf lw cn fr to hv dy an af ln sz ce tr ft hG hC (xs (i + 1)) (xs (i + 2)) (xs (i + 3)) (xs (i + 4)) (xs (i + 5))) (rc_AP hw) ⟨Nat.le_of_ble_eq_true rfl, Nat.le_of_ble_eq_true rfl⟩ ⟨by show cells + 0 ≤ 600000; omega, by show slots + 0 ≤ 7302250; omega⟩ rfl hl rfl (Nat.le_of_ble_eq_true rfl) d_law_915 ?_
  refine lv_aload_n hx hb d_law_918 rfl (lv_at hl 2 rfl) ?_
  refine l_arg hc hX hbl hbA hL hw hl (j := 1) (by omega) d_law_919 d_law_920 d_law_921 (by decide) d_law_922 d_law_923 ?_
  refine l_arg hc hX hbl hbA hL hw hl (j := 2) (by omega) d_law_924 d_law_925 d_law_926 (by decide) d_law_927 d_law_928 ?_
  refine l_arg hc hX hbl hbA hL hw hl (j := 3) (by omega) d_law_929 d_law_930 d_law_931 (by decide) d_law_932 d_law_933 ?_
  refine l_arg hc hX hbl hbA hL hw hl (j := 4) (by omega) d_law_934 d_law_935 d_law_936 (by decide) d_law_937 d_law_938 ?_
  refine l_arg hc hX hbl hbA hL hw hl (j := 5) (by omega) d_law_939 d_law_940 d_law_941 (by decide) d_law_942 d_law_943 ?_
  refine kWV hc hw lk_law_90 (h := 58) (As := [.int (xs (i + 1)), .int (xs (i + 2)), .int (xs (i + 3)), .int (xs (i + 4)), .int (xs (i + 5))]) (rest := [_]) (c_MO_weights l D g F pc lf lw cn fr to hv dy an af ln sz ce tr ft hG hM (xs (i + 1)) (xs (i + 2)) (xs (i + 3)) (xs (i + 4)) (xs (i + 5))) (rc_MO hw) ⟨Nat.le_of_ble_eq_true rfl, Nat.le_of_ble_eq_true rfl⟩ ⟨by show cells + 0 ≤ 600000; omega, by show slots + 0 ≤ 7302250; omega⟩ rfl hl rfl (Nat.le_of_ble_eq_true rfl) d_law_944 (fun v9 g1 F2 H locs hp hw => ?_)
  obtain ⟨rfl, rfl, hM2, hf2⟩ := hp
  have hC2 := CI_c hC (fun k hk => hf2 k hk)
  refine lv_icmp_eq (tgt := 1296) hx hb d_law_947 (by decide) (fun _ => ?_) (fun h9 => absurd rfl h9)
  exact W.widen (by omega) (by omega) (kk g _ _ _ _ _ _ _ _ _ _ (hG) hC2 hM2 hw hl)
theorem lc_18 (hc : CallFix p m c code 4 s #[.ref b] gws R_law0) (hX : va_X b L xs s s.heap) (hbl : b < s.heap.size) (hbA : ¬ A b) (hL : L ≤ 4096) (hi : i + 8 ≤ L) (hce : cells + 6 ≤ 600000) (hsl : slots + 12 ≤ 7302250) (pc : Nat) (lf : Nat → Nat) (lw : Nat) (cn : Nat) (fr to hv dy : Nat → Nat) (an af : Nat → Option Nat) (ln : Nat → Option Nat) (sz : Nat → Nat) (ce : Nat → Nat → Int32) (tr ft : Int32) (hG : GI g (pc, lf) lw (cn, fr, to, hv, dy, an, af) (ln, sz, ce)) (hC : CI g F (pc, lf) lw (cn, fr, to, hv, dy, an, af) (ln, sz, ce) tr ft) (hM : MI g F (pc, lf) lw (cn, fr, to, hv, dy, an, af) (ln, sz, ce) tr ft) (hw : Wd D g F A s.heap H locs s) (hl : lv_has ls 4 [(0, .ref b), (1, .ref (wad g 0)), (2, .ref (wad g 58)), (3, .int (nI i))]) (kk : lw_K p l e s m below meth c b i cells slots D A Q) : W p l e room_1 s m #[.ref b] below meth c H locs cells slots Q (F0 m 952 ls []) := by
  have hx := hc.1
  have hb := hc.2.1
  refine lv_aload_n hx hb d_law_952 rfl (lv_at hl 1 rfl) ?_
  refine l_arg hc hX hbl hbA hL hw hl (j := 1) (by omega) d_law_953 d_law_954 d_law_955 (by decide) d_law_956 d_law_957 ?_
  refine l_arg hc hX hbl hbA hL hw hl (j := 2) (by omega) d_law_958 d_law_959 d_law_960 (by decide) d_law_961 d_law_962 ?_
  refine l_arg hc hX hbl hbA hL hw hl (j := 3) (by omega) d_law_963 d_law_964 d_law_965 (by decide) d_law_966 d_law_967 ?_
  refine kWV hc hw lk_law_91 (h := 0) (As := [.int (xs (i + 1)), .int (xs (i + 2)), .int (xs (i + 3))]) (rest := []) (c_AP_sheet l D g F pc lf lw cn fr to hv dy an af ln sz ce tr ft hG hC (xs (i + 1)) (xs (i + 2)) (xs (i + 3))) (rc_AP hw) ⟨Nat.le_of_ble_eq_true rfl, Nat.le_of_ble_eq_true rfl⟩ ⟨by show cells + 0 ≤ 600000; omega, by show slots + 0 ≤ 7302250; omega⟩ rfl hl rfl (Nat.le_of_ble_eq_true rfl) d_law_968 (fun v9 g1 F1 H locs hp hw => ?_)
  obtain ⟨rfl, rfl, hC1, hf1⟩ := hp
  have hM1 := MI_c hM (fun k h1 h2 => hf1 k (Or.inr (by omega)))
  refine lv_aload_n hx hb d_law_971 rfl (lv_at hl 2 rfl) ?_
  refine l_arg hc hX hbl hbA hL hw hl (j := 1) (by omega) d_law_972 d_law_973 d_law_974 (by decide) d_law_975 d_law_976 ?_
  refine l_arg hc hX hbl hbA hL hw hl (j := 2) (by omega) d_law_977 d_law_978 d_law_979 (by decide) d_law_980 d_law_981 ?_
  refine l_arg hc hX hbl hbA hL hw hl (j := 3) (by omega) d_law_982 d_law_983 d_law_984 (by decide) d_law_985 d_law_986 ?_
  refine kWV hc hw lk_law_94 (h := 58) (As := [.int (xs (i + 1)), .int (xs (i + 2)), .int (xs (i + 3))]) (rest := [_]) (c_MO_sheet l D g F1 pc lf lw cn fr to hv dy an af ln sz ce tr ft hG hM1 (xs (i + 1)) (xs (i + 2)) (xs (i + 3))) (rc_MO hw) ⟨Nat.le_of_ble_eq_true rfl, Nat.le_of_ble_eq_true rfl⟩ ⟨by show cells + 0 ≤ 600000; omega, by show slots + 0 ≤ 7302250; omega⟩ rfl hl rfl (Nat.le_of_ble_eq_true rfl) d_law_987 (fun v9 g1 F2 H locs hp hw => ?_)
  obtain ⟨rfl, rfl, hM2, hf2⟩ := hp
  have hC2 := CI_c hC1 (fun k hk => hf2 k hk)
  refine lv_icmp_eq (tgt := 1296) hx hb d_law_990 (by decide) (fun _ => ?_) (fun h9 => absurd rfl h9)
  exact W.widen (by omega) (by omega) (kk g _ _ _ _ _ _ _ _ _ _ (GI_sheet hG _ _ _) hC2 hM2 hw hl)
theorem lc_19 (hc : CallFix p m c code 4 s #[.ref b] gws R_law0) (hX : va_X b L xs s s.heap) (hbl : b < s.heap.size) (hbA : ¬ A b) (hL : L ≤ 4096) (hi : i + 8 ≤ L) (hce : cells + 6 ≤ 600000) (hsl : slots + 12 ≤ 7302250) (pc : Nat) (lf : Nat → Nat) (lw : Nat) (cn : Nat) (fr to hv dy : Nat → Nat) (an af : Nat → Option Nat) (ln : Nat → Option Nat) (sz : Nat → Nat) (ce : Nat → Nat → Int32) (tr ft : Int32) (hG : GI g (pc, lf) lw (cn, fr, to, hv, dy, an, af) (ln, sz, ce)) (hC : CI g F (pc, lf) lw (cn, fr, to, hv, dy, an, af) (ln, sz, ce) tr ft) (hM : MI g F (pc, lf) lw (cn, fr, to, hv, dy, an, af) (ln, sz, ce) tr ft) (hw : Wd D g F A s.heap H locs s) (hl : lv_has ls 4 [(0, .ref b), (1, .ref (wad g 0)), (2, .ref (wad g 58)), (3, .int (nI i))]) (kk : lw_K p l e s m below meth c b i cells slots D A Q) : W p l e room_1 s m #[.ref b] below meth c H locs cells slots Q (F0 m 995 ls []) := by
  have hx := hc.1
  have hb := hc.2.1
  refine lv_aload_n hx hb d_law_995 rfl (lv_at hl 1 rfl) ?_
  refine l_arg hc hX hbl hbA hL hw hl (j := 1) (by omega) d_law_996 d_law_997 d_law_998 (by decide) d_law_999 d_law_1000 ?_
  refine kWV hc hw lk_law_95 (h := 0) (As := [.int (xs (i + 1))]) (rest := []) (c_AP_lose l D g F pc lf lw cn fr to hv dy an af ln sz ce tr ft hG hC (xs (i + 1))) (rc_AP hw) ⟨Nat.le_of_ble_eq_true rfl, Nat.le_of_ble_eq_true rfl⟩ ⟨by show cells + 0 ≤ 600000; omega, by show slots + 0 ≤ 7302250; omega⟩ rfl hl rfl (Nat.le_of_ble_eq_true rfl) d_law_1001 (fun v9 g1 F1 H locs hp hw => ?_)
  obtain ⟨rfl, rfl, hC1, hf1⟩ := hp
  have hM1 := MI_c hM (fun k h1 h2 => hf1 k (Or.inr (by omega)))
  refine lv_aload_n hx hb d_law_1004 rfl (lv_at hl 2 rfl) ?_
  refine l_arg hc hX hbl hbA hL hw hl (j := 1) (by omega) d_law_1005 d_law_1006 d_law_1007 (by decide) d_law_1008 d_law_1009 ?_
  refine kWV hc hw lk_law_98 (h := 58) (As := [.int (xs (i + 1))]) (rest := [_]) (c_MO_lose l D g F1 pc lf lw cn fr to hv dy an af ln sz ce tr ft hG hM1 (xs (i + 1))) (rc_MO hw) ⟨Nat.le_of_ble_eq_true rfl, Nat.le_of_ble_eq_true rfl⟩ ⟨by show cells + 0 ≤ 600000; omega, by show slots + 0 ≤ 7302250; omega⟩ rfl hl rfl (Nat.le_of_ble_eq_true rfl) d_law_1010 (fun v9 g1 F2 H locs hp hw => ?_)
  obtain ⟨rfl, rfl, hM2, hf2⟩ := hp
  have hC2 := CI_c hC1 (fun k hk => hf2 k hk)
  refine lv_icmp_eq (tgt := 1296) hx hb d_law_1013 (by decide) (fun _ => ?_) (fun h9 => absurd rfl h9)
  exact W.widen (by omega) (by omega) (kk g _ _ _ _ _ _ _ _ _ _ (GI_lose hG _) hC2 hM2 hw hl)
theorem lc_20 (hc : CallFix p m c code 4 s #[.ref b] gws R_law0) (hX : va_X b L xs s s.heap) (hbl : b < s.heap.size) (hbA : ¬ A b) (hL : L ≤ 4096) (hi : i + 8 ≤ L) (hce : cells + 6 ≤ 600000) (hsl : slots + 12 ≤ 7302250) (pc : Nat) (lf : Nat → Nat) (lw : Nat) (cn : Nat) (fr to hv dy : Nat → Nat) (an af : Nat → Option Nat) (ln : Nat → Option Nat) (sz : Nat → Nat) (ce : Nat → Nat → Int32) (tr ft : Int32) (hG : GI g (pc, lf) lw (cn, fr, to, hv, dy, an, af) (ln, sz, ce)) (hC : CI g F (pc, lf) lw (cn, fr, to, hv, dy, an, af) (ln, sz, ce) tr ft) (hM : MI g F (pc, lf) lw (cn, fr, to, hv, dy, an, af) (ln, sz, ce) tr ft) (hw : Wd D g F A s.heap H locs s) (hl : lv_has ls 4 [(0, .ref b), (1, .ref (wad g 0)), (2, .ref (wad g 58)), (3, .int (nI i))]) (kk : lw_K p l e s m below meth c b i cells slots D A Q) : W p l e room_1 s m #[.ref b] below meth c H locs cells slots Q (F0 m 1018 ls []) := by
  have hx := hc.1
  have hb := hc.2.1
  refine lv_aload_n hx hb d_law_1018 rfl (lv_at hl 1 rfl) ?_
  refine l_arg hc hX hbl hbA hL hw hl (j := 1) (by omega) d_law_1019 d_law_1020 d_law_1021 (by decide) d_law_1022 d_law_1023 ?_
  refine l_arg hc hX hbl hbA hL hw hl (j := 2) (by omega) d_law_1024 d_law_1025 d_law_1026 (by decide) d_law_1027 d_law_1028 ?_
  refine l_arg hc hX hbl hbA hL hw hl (j := 3) (by omega) d_law_1029 d_law_1030 d_law_1031 (by decide) d_law_1032 d_law_1033 ?_
  refine kWV hc hw lk_law_99 (h := 0) (As := [.int (xs (i + 1)), .int (xs (i + 2)), .int (xs (i + 3))]) (rest := []) (c_AP_put l D g F pc lf lw cn fr to hv dy an af ln sz ce tr ft hG hC (xs (i + 1)) (xs (i + 2)) (xs (i + 3))) (rc_AP hw) ⟨Nat.le_of_ble_eq_true rfl, Nat.le_of_ble_eq_true rfl⟩ ⟨by show cells + 0 ≤ 600000; omega, by show slots + 0 ≤ 7302250; omega⟩ rfl hl rfl (Nat.le_of_ble_eq_true rfl) d_law_1034 (fun v9 g1 F1 H locs hp hw => ?_)
  obtain ⟨rfl, rfl, hC1, hf1⟩ := hp
  have hM1 := MI_c hM (fun k h1 h2 => hf1 k (Or.inr (by omega)))
  refine lv_aload_n hx hb d_law_1037 rfl (lv_at hl 2 rfl) ?_
  refine l_arg hc hX hbl hbA hL hw hl (j := 1) (by omega) d_law_1038 d_law_1039 d_law_1040 (by decide) d_law_1041 d_law_1042 ?_
  refine l_arg hc hX hbl hbA hL hw hl (j := 2) (by omega) d_law_1043 d_law_1044 d_law_1045 (by decide) d_law_1046 d_law_1047 ?_
  refine l_arg hc hX hbl hbA hL hw hl (j := 3) (by omega) d_law_1048 d_law_1049 d_law_1050 (by decide) d_law_1051 d_law_1052 ?_
  refine kWV hc hw lk_law_102 (h := 58) (As := [.int (xs (i + 1)), .int (xs (i + 2)), .int (xs (i + 3))]) (rest := [_]) (c_MO_put l D g F1 pc lf lw cn fr to hv dy an af ln sz ce tr ft hG hM1 (xs (i + 1)) (xs (i + 2)) (xs (i + 3))) (rc_MO hw) ⟨Nat.le_of_ble_eq_true rfl, Nat.le_of_ble_eq_true rfl⟩ ⟨by show cells + 0 ≤ 600000; omega, by show slots + 0 ≤ 7302250; omega⟩ rfl hl rfl (Nat.le_of_ble_eq_true rfl) d_law_1053 (fun v9 g1 F2 H locs hp hw => ?_)
  obtain ⟨rfl, rfl, hM2, hf2⟩ := hp
  have hC2 := CI_c hC1 (fun k hk => hf2 k hk)
  refine lv_icmp_eq (tgt := 1296) hx hb d_law_1056 (by decide) (fun _ => ?_) (fun h9 => absurd rfl h9)
  exact W.widen (by omega) (by omega) (kk g _ _ _ _ _ _ _ _ _ _ (GI_put hG _ _ _) hC2 hM2 hw hl)
theorem lc_21 (hc : CallFix p m c code 4 s #[.ref b] gws R_law0) (hX : va_X b L xs s s.heap) (hbl : b < s.heap.size) (hbA : ¬ A b) (hL : L ≤ 4096) (hi : i + 8 ≤ L) (hce : cells + 6 ≤ 600000) (hsl : slots + 12 ≤ 7302250) (pc : Nat) (lf : Nat → Nat) (lw : Nat) (cn : Nat) (fr to hv dy : Nat → Nat) (an af : Nat → Option Nat) (ln : Nat → Option Nat) (sz : Nat → Nat) (ce : Nat → Nat → Int32) (tr ft : Int32) (hG : GI g (pc, lf) lw (cn, fr, to, hv, dy, an, af) (ln, sz, ce)) (hC : CI g F (pc, lf) lw (cn, fr, to, hv, dy, an, af) (ln, sz, ce) tr ft) (hM : MI g F (pc, lf) lw (cn, fr, to, hv, dy, an, af) (ln, sz, ce) tr ft) (hw : Wd D g F A s.heap H locs s) (hl : lv_has ls 4 [(0, .ref b), (1, .ref (wad g 0)), (2, .ref (wad g 58)), (3, .int (nI i))]) (kk : lw_K p l e s m below meth c b i cells slots D A Q) : W p l e room_1 s m #[.ref b] below meth c H locs cells slots Q (F0 m 1061 ls []) := by
  have hx := hc.1
  have hb := hc.2.1
  refine lv_aload_n hx hb d_law_1061 rfl (lv_at hl 1 rfl) ?_
  refine l_arg hc hX hbl hbA hL hw hl (j := 1) (by omega) d_law_1062 d_law_1063 d_law_1064 (by decide) d_law_1065 d_law_1066 ?_
  refine l_arg hc hX hbl hbA hL hw hl (j := 2) (by omega) d_law_1067 d_law_1068 d_law_1069 (by decide) d_law_1070 d_law_1071 ?_
  refine l_arg hc hX hbl hbA hL hw hl (j := 3) (by omega) d_law_1072 d_law_1073 d_law_1074 (by decide) d_law_1075 d_law_1076 ?_
  refine kWV hc hw lk_law_103 (h := 0) (As := [.int (xs (i + 1)), .int (xs (i + 2)), .int (xs (i + 3))]) (rest := []) (c_AP_cell l D g F pc lf lw cn fr to hv dy an af ln sz ce tr ft hG hC (xs (i + 1)) (xs (i + 2)) (xs (i + 3))) (rc_AP hw) ⟨Nat.le_of_ble_eq_true rfl, Nat.le_of_ble_eq_true rfl⟩ ⟨by show cells + 0 ≤ 600000; omega, by show slots + 0 ≤ 7302250; omega⟩ rfl hl rfl (Nat.le_of_ble_eq_true rfl) d_law_1077 (fun v9 g1 F1 H locs hp hw => ?_)
  obtain ⟨rfl, rfl, hC1, hf1⟩ := hp
  have hM1 := MI_c hM (fun k h1 h2 => hf1 k (Or.inr (by omega)))
  refine lv_aload_n hx hb d_law_1080 rfl (lv_at hl 2 rfl) ?_
  refine l_arg hc hX hbl hbA hL hw hl (j := 1) (by omega) d_law_1081 d_law_1082 d_law_1083 (by decide) d_law_1084 d_law_1085 ?_
  refine l_arg hc hX hbl hbA hL hw hl (j := 2) (by omega) d_law_1086 d_law_1087 d_law_1088 (by decide) d_law_1089 d_law_1090 ?_
  refine l_arg hc hX hbl hbA hL hw hl (j := 3) (by omega) d_law_1091 d_law_1092 d_law_1093 (by decide) d_law_1094 d_law_1095 ?_
  refine kWV hc hw lk_law_107 (h := 58) (As := [.int (xs (i + 1)), .int (xs (i + 2)), .int (xs (i + 3))]) (rest := [_]) (c_MO_cell l D g F1 pc lf lw cn fr to hv dy an af ln sz ce tr ft hG hM1 (xs (i + 1)) (xs (i + 2)) (xs (i + 3))) (rc_MO hw) ⟨Nat.le_of_ble_eq_true rfl, Nat.le_of_ble_eq_true rfl⟩ ⟨by show cells + 0 ≤ 600000; omega, by show slots + 0 ≤ 7302250; omega⟩ rfl hl rfl (Nat.le_of_ble_eq_true rfl) d_law_1096 (fun v9 g1 F2 H locs hp hw => ?_)
  obtain ⟨rfl, rfl, hM2, hf2⟩ := hp
  have hC2 := CI_c hC1 (fun k hk => hf2 k hk)
  refine W.lcmp hx hb d_law_1099 ?_
  rw [(lg_cmp_eq _ _).mpr rfl]
  refine lv_if_eq (tgt := 1296) hx hb d_law_1100 (by decide) (fun _ => ?_) (fun h9 => absurd rfl h9)
  exact W.widen (by omega) (by omega) (kk g _ _ _ _ _ _ _ _ _ _ (hG) hC2 hM2 hw hl)
theorem lc_22 (hc : CallFix p m c code 4 s #[.ref b] gws R_law0) (hX : va_X b L xs s s.heap) (hbl : b < s.heap.size) (hbA : ¬ A b) (hL : L ≤ 4096) (hi : i + 8 ≤ L) (hce : cells + 6 ≤ 600000) (hsl : slots + 12 ≤ 7302250) (pc : Nat) (lf : Nat → Nat) (lw : Nat) (cn : Nat) (fr to hv dy : Nat → Nat) (an af : Nat → Option Nat) (ln : Nat → Option Nat) (sz : Nat → Nat) (ce : Nat → Nat → Int32) (tr ft : Int32) (hG : GI g (pc, lf) lw (cn, fr, to, hv, dy, an, af) (ln, sz, ce)) (hC : CI g F (pc, lf) lw (cn, fr, to, hv, dy, an, af) (ln, sz, ce) tr ft) (hM : MI g F (pc, lf) lw (cn, fr, to, hv, dy, an, af) (ln, sz, ce) tr ft) (hw : Wd D g F A s.heap H locs s) (hl : lv_has ls 4 [(0, .ref b), (1, .ref (wad g 0)), (2, .ref (wad g 58)), (3, .int (nI i))]) (kk : lw_K p l e s m below meth c b i cells slots D A Q) : W p l e room_1 s m #[.ref b] below meth c H locs cells slots Q (F0 m 1105 ls []) := by
  have hx := hc.1
  have hb := hc.2.1
  refine lv_aload_n hx hb d_law_1105 rfl (lv_at hl 1 rfl) ?_
  refine l_arg hc hX hbl hbA hL hw hl (j := 1) (by omega) d_law_1106 d_law_1107 d_law_1108 (by decide) d_law_1109 d_law_1110 ?_
  refine l_arg hc hX hbl hbA hL hw hl (j := 2) (by omega) d_law_1111 d_law_1112 d_law_1113 (by decide) d_law_1114 d_law_1115 ?_
  refine l_arg hc hX hbl hbA hL hw hl (j := 3) (by omega) d_law_1116 d_law_1117 d_law_1118 (by decide) d_law_1119 d_law_1120 ?_
  refine l_arg hc hX hbl hbA hL hw hl (j := 4) (by omega) d_law_1121 d_law_1122 d_law_1123 (by decide) d_law_1124 d_law_1125 ?_
  refine l_arg hc hX hbl hbA hL hw hl (j := 5) (by omega) d_law_1126 d_law_1127 d_law_1128 (by decide) d_law_1129 d_law_1130 ?_
  refine kWV hc hw lk_law_108 (h := 0) (As := [.int (xs (i + 1)), .int (xs (i + 2)), .int (xs (i + 3)), .int (xs (i + 4)), .int (xs (i + 5))]) (rest := []) (c_AP_copy l D g F pc lf lw cn fr to hv dy an af ln sz ce tr ft hG hC (xs (i + 1)) (xs (i + 2)) (xs (i + 3)) (xs (i + 4)) (xs (i + 5))) (rc_AP hw) ⟨Nat.le_of_ble_eq_true rfl, Nat.le_of_ble_eq_true rfl⟩ ⟨by show cells + 0 ≤ 600000; omega, by show slots + 0 ≤ 7302250; omega⟩ rfl hl rfl (Nat.le_of_ble_eq_true rfl) d_law_1131 (fun v9 g1 F1 H locs hp hw => ?_)
  obtain ⟨rfl, rfl, hC1, hf1⟩ := hp
  have hM1 := MI_c hM (fun k h1 h2 => hf1 k (Or.inr (by omega)))
  refine lv_aload_n hx hb d_law_1134 rfl (lv_at hl 2 rfl) ?_
  refine l_arg hc hX hbl hbA hL hw hl (j := 1) (by omega) d_law_1135 d_law_1136 d_law_1137 (by decide) d_law_1138 d_law_1139 ?_
  refine l_arg hc hX hbl hbA hL hw hl (j := 2) (by omega) d_law_1140 d_law_1141 d_law_1142 (by decide) d_law_1143 d_law_1144 ?_
  refine l_arg hc hX hbl hbA hL hw hl (j := 3) (by omega) d_law_1145 d_law_1146 d_law_1147 (by decide) d_law_1148 d_law_1149 ?_
  refine l_arg hc hX hbl hbA hL hw hl (j := 4) (by omega) d_law_1150 d_law_1151 d_law_1152 (by decide) d_law_1153 d_law_1154 ?_
  refine l_arg hc hX hbl hbA hL hw hl (j := 5) (by omega) d_law_1155 d_law_1156 d_law_1157 (by decide) d_law_1158 d_law_1159 ?_
  refine kWV hc hw lk_law_111 (h := 58) (As := [.int (xs (i + 1)), .int (xs (i + 2)), .int (xs (i + 3)), .int (xs (i + 4)), .int (xs (i + 5))]) (rest := [_]) (c_MO_copy l D g F1 pc lf lw cn fr to hv dy an af ln sz ce tr ft hG hM1 (xs (i + 1)) (xs (i + 2)) (xs (i + 3)) (xs (i + 4)) (xs (i + 5))) (rc_MO hw) ⟨Nat.le_of_ble_eq_true rfl, Nat.le_of_ble_eq_true rfl⟩ ⟨by show cells + 0 ≤ 600000; omega, by show slots + 0 ≤ 7302250; omega⟩ rfl hl rfl (Nat.le_of_ble_eq_true rfl) d_law_1160 (fun v9 g1 F2 H locs hp hw => ?_)
  obtain ⟨rfl, rfl, hM2, hf2⟩ := hp
  have hC2 := CI_c hC1 (fun k hk => hf2 k hk)
  refine lv_icmp_eq (tgt := 1296) hx hb d_law_1163 (by decide) (fun _ => ?_) (fun h9 => absurd rfl h9)
  exact W.widen (by omega) (by omega) (kk g _ _ _ _ _ _ _ _ _ _ (GI_copy hG _ _ _ _ _) hC2 hM2 hw hl)
theorem lc_23 (hc : CallFix p m c code 4 s #[.ref b] gws R_law0) (hX : va_X b L xs s s.heap) (hbl : b < s.heap.size) (hbA : ¬ A b) (hL : L ≤ 4096) (hi : i + 8 ≤ L) (hce : cells + 6 ≤ 600000) (hsl : slots + 12 ≤ 7302250) (pc : Nat) (lf : Nat → Nat) (lw : Nat) (cn : Nat) (fr to hv dy : Nat → Nat) (an af : Nat → Option Nat) (ln : Nat → Option Nat) (sz : Nat → Nat) (ce : Nat → Nat → Int32) (tr ft : Int32) (hG : GI g (pc, lf) lw (cn, fr, to, hv, dy, an, af) (ln, sz, ce)) (hC : CI g F (pc, lf) lw (cn, fr, to, hv, dy, an, af) (ln, sz, ce) tr ft) (hM : MI g F (pc, lf) lw (cn, fr, to, hv, dy, an, af) (ln, sz, ce) tr ft) (hw : Wd D g F A s.heap H locs s) (hl : lv_has ls 4 [(0, .ref b), (1, .ref (wad g 0)), (2, .ref (wad g 58)), (3, .int (nI i))]) (kk : lw_K p l e s m below meth c b i cells slots D A Q) : W p l e room_1 s m #[.ref b] below meth c H locs cells slots Q (F0 m 1168 ls []) := by
  have hx := hc.1
  have hb := hc.2.1
  refine lv_aload_n hx hb d_law_1168 rfl (lv_at hl 1 rfl) ?_
  refine l_arg hc hX hbl hbA hL hw hl (j := 1) (by omega) d_law_1169 d_law_1170 d_law_1171 (by decide) d_law_1172 d_law_1173 ?_
  refine kWV hc hw lk_law_112 (h := 0) (As := [.int (xs (i + 1))]) (rest := []) (c_AP_tell l D g F pc lf lw cn fr to hv dy an af ln sz ce tr ft hG hC (xs (i + 1))) (rc_AP hw) ⟨Nat.le_of_ble_eq_true rfl, Nat.le_of_ble_eq_true rfl⟩ ⟨by show cells + 0 ≤ 600000; omega, by show slots + 0 ≤ 7302250; omega⟩ rfl hl rfl (Nat.le_of_ble_eq_true rfl) d_law_1174 (fun v9 g1 F1 H locs hp hw => ?_)
  obtain ⟨rfl, rfl, hC1, hf1⟩ := hp
  have hM1 := MI_c hM (fun k h1 h2 => hf1 k (Or.inr (by omega)))
  refine lv_aload_n hx hb d_law_1177 rfl (lv_at hl 2 rfl) ?_
  refine l_arg hc hX hbl hbA hL hw hl (j := 1) (by omega) d_law_1178 d_law_1179 d_law_1180 (by decide) d_law_1181 d_law_1182 ?_
  refine kWV hc hw lk_law_115 (h := 58) (As := [.int (xs (i + 1))]) (rest := [_]) (c_MO_tell l D g F1 pc lf lw cn fr to hv dy an af ln sz ce tr ft hG hM1 (xs (i + 1))) (rc_MO hw) ⟨Nat.le_of_ble_eq_true rfl, Nat.le_of_ble_eq_true rfl⟩ ⟨by show cells + 0 ≤ 600000; omega, by show slots + 0 ≤ 7302250; omega⟩ rfl hl rfl (Nat.le_of_ble_eq_true rfl) d_law_1183 (fun v9 g1 F2 H locs hp hw => ?_)
  obtain ⟨rfl, rfl, hM2, hf2⟩ := hp
  have hC2 := CI_c hC1 (fun k hk => hf2 k hk)
  refine lv_icmp_eq (tgt := 1296) hx hb d_law_1186 (by decide) (fun _ => ?_) (fun h9 => absurd rfl h9)
  exact W.widen (by omega) (by omega) (kk g _ _ _ _ _ _ _ _ _ _ (hG) hC2 hM2 hw hl)
theorem lc_24 (hc : CallFix p m c code 4 s #[.ref b] gws R_law0) (hX : va_X b L xs s s.heap) (hbl : b < s.heap.size) (hbA : ¬ A b) (hL : L ≤ 4096) (hi : i + 8 ≤ L) (hce : cells + 6 ≤ 600000) (hsl : slots + 12 ≤ 7302250) (pc : Nat) (lf : Nat → Nat) (lw : Nat) (cn : Nat) (fr to hv dy : Nat → Nat) (an af : Nat → Option Nat) (ln : Nat → Option Nat) (sz : Nat → Nat) (ce : Nat → Nat → Int32) (tr ft : Int32) (hG : GI g (pc, lf) lw (cn, fr, to, hv, dy, an, af) (ln, sz, ce)) (hC : CI g F (pc, lf) lw (cn, fr, to, hv, dy, an, af) (ln, sz, ce) tr ft) (hM : MI g F (pc, lf) lw (cn, fr, to, hv, dy, an, af) (ln, sz, ce) tr ft) (hw : Wd D g F A s.heap H locs s) (hl : lv_has ls 4 [(0, .ref b), (1, .ref (wad g 0)), (2, .ref (wad g 58)), (3, .int (nI i))]) (kk : lw_K p l e s m below meth c b i cells slots D A Q) : W p l e room_1 s m #[.ref b] below meth c H locs cells slots Q (F0 m 1191 ls []) := by
  have hx := hc.1
  have hb := hc.2.1
  refine lv_aload_n hx hb d_law_1191 rfl (lv_at hl 1 rfl) ?_
  refine l_arg hc hX hbl hbA hL hw hl (j := 1) (by omega) d_law_1192 d_law_1193 d_law_1194 (by decide) d_law_1195 d_law_1196 ?_
  refine kWV hc hw lk_law_116 (h := 0) (As := [.int (xs (i + 1))]) (rest := []) (c_AP_greet l D g F pc lf lw cn fr to hv dy an af ln sz ce tr ft hG hC (xs (i + 1))) (rc_AP hw) ⟨Nat.le_of_ble_eq_true rfl, Nat.le_of_ble_eq_true rfl⟩ ⟨by show cells + 0 ≤ 600000; omega, by show slots + 0 ≤ 7302250; omega⟩ rfl hl rfl (Nat.le_of_ble_eq_true rfl) d_law_1197 (fun v9 g1 F1 H locs hp hw => ?_)
  obtain ⟨rfl, rfl, hC1, hf1⟩ := hp
  have hM1 := MI_c hM (fun k h1 h2 => hf1 k (Or.inr (by omega)))
  refine lv_aload_n hx hb d_law_1200 rfl (lv_at hl 2 rfl) ?_
  refine l_arg hc hX hbl hbA hL hw hl (j := 1) (by omega) d_law_1201 d_law_1202 d_law_1203 (by decide) d_law_1204 d_law_1205 ?_
  refine kWV hc hw lk_law_119 (h := 58) (As := [.int (xs (i + 1))]) (rest := [_]) (c_MO_greet l D g F1 pc lf lw cn fr to hv dy an af ln sz ce tr ft hG hM1 (xs (i + 1))) (rc_MO hw) ⟨Nat.le_of_ble_eq_true rfl, Nat.le_of_ble_eq_true rfl⟩ ⟨by show cells + 0 ≤ 600000; omega, by show slots + 0 ≤ 7302250; omega⟩ rfl hl rfl (Nat.le_of_ble_eq_true rfl) d_law_1206 (fun v9 g1 F2 H locs hp hw => ?_)
  obtain ⟨rfl, rfl, hM2, hf2⟩ := hp
  have hC2 := CI_c hC1 (fun k hk => hf2 k hk)
  refine lv_icmp_eq (tgt := 1296) hx hb d_law_1209 (by decide) (fun _ => ?_) (fun h9 => absurd rfl h9)
  exact W.widen (by omega) (by omega) (kk g _ _ _ _ _ _ _ _ _ _ (hG) hC2 hM2 hw hl)
theorem lc_25 (hc : CallFix p m c code 4 s #[.ref b] gws R_law0) (hX : va_X b L xs s s.heap) (hbl : b < s.heap.size) (hbA : ¬ A b) (hL : L ≤ 4096) (hi : i + 8 ≤ L) (hce : cells + 6 ≤ 600000) (hsl : slots + 12 ≤ 7302250) (pc : Nat) (lf : Nat → Nat) (lw : Nat) (cn : Nat) (fr to hv dy : Nat → Nat) (an af : Nat → Option Nat) (ln : Nat → Option Nat) (sz : Nat → Nat) (ce : Nat → Nat → Int32) (tr ft : Int32) (hG : GI g (pc, lf) lw (cn, fr, to, hv, dy, an, af) (ln, sz, ce)) (hC : CI g F (pc, lf) lw (cn, fr, to, hv, dy, an, af) (ln, sz, ce) tr ft) (hM : MI g F (pc, lf) lw (cn, fr, to, hv, dy, an, af) (ln, sz, ce) tr ft) (hw : Wd D g F A s.heap H locs s) (hl : lv_has ls 4 [(0, .ref b), (1, .ref (wad g 0)), (2, .ref (wad g 58)), (3, .int (nI i))]) (kk : lw_K p l e s m below meth c b i cells slots D A Q) : W p l e room_1 s m #[.ref b] below meth c H locs cells slots Q (F0 m 1214 ls []) := by
  have hx := hc.1
  have hb := hc.2.1
  refine lv_aload_n hx hb d_law_1214 rfl (lv_at hl 1 rfl) ?_
  refine l_arg hc hX hbl hbA hL hw hl (j := 1) (by omega) d_law_1215 d_law_1216 d_law_1217 (by decide) d_law_1218 d_law_1219 ?_
  refine l_arg hc hX hbl hbA hL hw hl (j := 2) (by omega) d_law_1220 d_law_1221 d_law_1222 (by decide) d_law_1223 d_law_1224 ?_
  refine kWV hc hw lk_law_120 (h := 0) (As := [.int (xs (i + 1)), .int (xs (i + 2))]) (rest := []) (c_AP_as l D g F pc lf lw cn fr to hv dy an af ln sz ce tr ft hG hC (xs (i + 1)) (xs (i + 2))) (rc_AP hw) ⟨Nat.le_of_ble_eq_true rfl, Nat.le_of_ble_eq_true rfl⟩ ⟨by show cells + 0 ≤ 600000; omega, by show slots + 0 ≤ 7302250; omega⟩ rfl hl rfl (Nat.le_of_ble_eq_true rfl) d_law_1225 (fun v9 g1 F1 H locs hp hw => ?_)
  obtain ⟨rfl, rfl, hC1, hf1⟩ := hp
  have hM1 := MI_c hM (fun k h1 h2 => hf1 k (Or.inr (by omega)))
  refine lv_aload_n hx hb d_law_1228 rfl (lv_at hl 2 rfl) ?_
  refine l_arg hc hX hbl hbA hL hw hl (j := 1) (by omega) d_law_1229 d_law_1230 d_law_1231 (by decide) d_law_1232 d_law_1233 ?_
  refine l_arg hc hX hbl hbA hL hw hl (j := 2) (by omega) d_law_1234 d_law_1235 d_law_1236 (by decide) d_law_1237 d_law_1238 ?_
  refine kWV hc hw lk_law_123 (h := 58) (As := [.int (xs (i + 1)), .int (xs (i + 2))]) (rest := [_]) (c_MO_as l D g F1 pc lf lw cn fr to hv dy an af ln sz ce tr ft hG hM1 (xs (i + 1)) (xs (i + 2))) (rc_MO hw) ⟨Nat.le_of_ble_eq_true rfl, Nat.le_of_ble_eq_true rfl⟩ ⟨by show cells + 0 ≤ 600000; omega, by show slots + 0 ≤ 7302250; omega⟩ rfl hl rfl (Nat.le_of_ble_eq_true rfl) d_law_1239 (fun v9 g1 F2 H locs hp hw => ?_)
  obtain ⟨rfl, rfl, hM2, hf2⟩ := hp
  have hC2 := CI_c hC1 (fun k hk => hf2 k hk)
  refine lv_icmp_eq (tgt := 1296) hx hb d_law_1242 (by decide) (fun _ => ?_) (fun h9 => absurd rfl h9)
  exact W.widen (by omega) (by omega) (kk g _ _ _ _ _ _ _ _ _ _ (hG) hC2 hM2 hw hl)
theorem lc_26 (hc : CallFix p m c code 4 s #[.ref b] gws R_law0) (hX : va_X b L xs s s.heap) (hbl : b < s.heap.size) (hbA : ¬ A b) (hL : L ≤ 4096) (hi : i + 8 ≤ L) (hce : cells + 6 ≤ 600000) (hsl : slots + 12 ≤ 7302250) (pc : Nat) (lf : Nat → Nat) (lw : Nat) (cn : Nat) (fr to hv dy : Nat → Nat) (an af : Nat → Option Nat) (ln : Nat → Option Nat) (sz : Nat → Nat) (ce : Nat → Nat → Int32) (tr ft : Int32) (hG : GI g (pc, lf) lw (cn, fr, to, hv, dy, an, af) (ln, sz, ce)) (hC : CI g F (pc, lf) lw (cn, fr, to, hv, dy, an, af) (ln, sz, ce) tr ft) (hM : MI g F (pc, lf) lw (cn, fr, to, hv, dy, an, af) (ln, sz, ce) tr ft) (hw : Wd D g F A s.heap H locs s) (hl : lv_has ls 4 [(0, .ref b), (1, .ref (wad g 0)), (2, .ref (wad g 58)), (3, .int (nI i))]) (kk : lw_K p l e s m below meth c b i cells slots D A Q) : W p l e room_1 s m #[.ref b] below meth c H locs cells slots Q (F0 m 1247 ls []) := by
  have hx := hc.1
  have hb := hc.2.1
  refine lv_aload_n hx hb d_law_1247 rfl (lv_at hl 1 rfl) ?_
  refine kRV hc hw lk_law_124 (h := 0) (As := []) (rest := []) (c_AP_trace l D g F pc lf lw cn fr to hv dy an af ln sz ce tr ft hG hC ) (rc_AP hw) ⟨Nat.le_of_ble_eq_true rfl, Nat.le_of_ble_eq_true rfl⟩ ⟨by show cells + 0 ≤ 600000; omega, by show slots + 0 ≤ 7302250; omega⟩ rfl hl rfl (Nat.le_of_ble_eq_true rfl) d_law_1248 ?_
  refine lv_aload_n hx hb d_law_1251 rfl (lv_at hl 2 rfl) ?_
  refine kRV hc hw lk_law_128 (h := 58) (As := []) (rest := [_]) (c_MO_trace l D g F pc lf lw cn fr to hv dy an af ln sz ce tr ft hG hM ) (rc_MO hw) ⟨Nat.le_of_ble_eq_true rfl, Nat.le_of_ble_eq_true rfl⟩ ⟨by show cells + 0 ≤ 600000; omega, by show slots + 0 ≤ 7302250; omega⟩ rfl hl rfl (Nat.le_of_ble_eq_true rfl) d_law_1252 ?_
  refine lv_icmp_eq (tgt := 1296) hx hb d_law_1255 (by decide) (fun _ => ?_) (fun h9 => absurd rfl h9)
  exact W.widen (by omega) (by omega) (kk g _ _ _ _ _ _ _ _ _ _ (hG) hC hM hw hl)
theorem lc_27 (hc : CallFix p m c code 4 s #[.ref b] gws R_law0) (hX : va_X b L xs s s.heap) (hbl : b < s.heap.size) (hbA : ¬ A b) (hL : L ≤ 4096) (hi : i + 8 ≤ L) (hce : cells + 6 ≤ 600000) (hsl : slots + 12 ≤ 7302250) (pc : Nat) (lf : Nat → Nat) (lw : Nat) (cn : Nat) (fr to hv dy : Nat → Nat) (an af : Nat → Option Nat) (ln : Nat → Option Nat) (sz : Nat → Nat) (ce : Nat → Nat → Int32) (tr ft : Int32) (hG : GI g (pc, lf) lw (cn, fr, to, hv, dy, an, af) (ln, sz, ce)) (hC : CI g F (pc, lf) lw (cn, fr, to, hv, dy, an, af) (ln, sz, ce) tr ft) (hM : MI g F (pc, lf) lw (cn, fr, to, hv, dy, an, af) (ln, sz, ce) tr ft) (hw : Wd D g F A s.heap H locs s) (hl : lv_has ls 4 [(0, .ref b), (1, .ref (wad g 0)), (2, .ref (wad g 58)), (3, .int (nI i))]) (kk : lw_K p l e s m below meth c b i cells slots D A Q) : W p l e room_1 s m #[.ref b] below meth c H locs cells slots Q (F0 m 1260 ls []) := by
  have hx := hc.1
  have hb := hc.2.1
  refine lv_aload_n hx hb d_law_1260 rfl (lv_at hl 1 rfl) ?_
  refine kRV hc hw lk_law_129 (h := 0) (As := []) (rest := []) (c_AP_fault l D g F pc lf lw cn fr to hv dy an af ln sz ce tr ft hG hC ) (rc_AP hw) ⟨Nat.le_of_ble_eq_true rfl, Nat.le_of_ble_eq_true rfl⟩ ⟨by show cells + 0 ≤ 600000; omega, by show slots + 0 ≤ 7302250; omega⟩ rfl hl rfl (Nat.le_of_ble_eq_true rfl) d_law_1261 ?_
  refine lv_aload_n hx hb d_law_1264 rfl (lv_at hl 2 rfl) ?_
  refine kRV hc hw lk_law_132 (h := 58) (As := []) (rest := [_]) (c_MO_fault l D g F pc lf lw cn fr to hv dy an af ln sz ce tr ft hG hM ) (rc_MO hw) ⟨Nat.le_of_ble_eq_true rfl, Nat.le_of_ble_eq_true rfl⟩ ⟨by show cells + 0 ≤ 600000; omega, by show slots + 0 ≤ 7302250; omega⟩ rfl hl rfl (Nat.le_of_ble_eq_true rfl) d_law_1265 ?_
  refine lv_icmp_eq (tgt := 1296) hx hb d_law_1268 (by decide) (fun _ => ?_) (fun h9 => absurd rfl h9)
  exact W.widen (by omega) (by omega) (kk g _ _ _ _ _ _ _ _ _ _ (hG) hC hM hw hl)
theorem lc_28 (hc : CallFix p m c code 4 s #[.ref b] gws R_law0) (hX : va_X b L xs s s.heap) (hbl : b < s.heap.size) (hbA : ¬ A b) (hL : L ≤ 4096) (hi : i + 8 ≤ L) (hce : cells + 6 ≤ 600000) (hsl : slots + 12 ≤ 7302250) (pc : Nat) (lf : Nat → Nat) (lw : Nat) (cn : Nat) (fr to hv dy : Nat → Nat) (an af : Nat → Option Nat) (ln : Nat → Option Nat) (sz : Nat → Nat) (ce : Nat → Nat → Int32) (tr ft : Int32) (hG : GI g (pc, lf) lw (cn, fr, to, hv, dy, an, af) (ln, sz, ce)) (hC : CI g F (pc, lf) lw (cn, fr, to, hv, dy, an, af) (ln, sz, ce) tr ft) (hM : MI g F (pc, lf) lw (cn, fr, to, hv, dy, an, af) (ln, sz, ce) tr ft) (hw : Wd D g F A s.heap H locs s) (hl : lv_has ls 4 [(0, .ref b), (1, .ref (wad g 0)), (2, .ref (wad g 58)), (3, .int (nI i))]) (kk : lw_K p l e s m below meth c b i cells slots D A Q) : W p l e room_1 s m #[.ref b] below meth c H locs cells slots Q (F0 m 1273 ls []) := by
  have hx := hc.1
  have hb := hc.2.1
  refine lv_aload_n hx hb d_law_1273 rfl (lv_at hl 1 rfl) ?_
  refine l_arg hc hX hbl hbA hL hw hl (j := 1) (by omega) d_law_1274 d_law_1275 d_law_1276 (by decide) d_law_1277 d_law_1278 ?_
  refine kRV hc hw lk_law_133 (h := 0) (As := [.int (xs (i + 1))]) (rest := []) (c_AP_many l D g F pc lf lw cn fr to hv dy an af ln sz ce tr ft hG hC (xs (i + 1))) (rc_AP hw) ⟨Nat.le_of_ble_eq_true rfl, Nat.le_of_ble_eq_true rfl⟩ ⟨by show cells + 0 ≤ 600000; omega, by show slots + 0 ≤ 7302250; omega⟩ rfl hl rfl (Nat.le_of_ble_eq_true rfl) d_law_1279 ?_
  refine lv_aload_n hx hb d_law_1282 rfl (lv_at hl 2 rfl) ?_
  refine l_arg hc hX hbl hbA hL hw hl (j := 1) (by omega) d_law_1283 d_law_1284 d_law_1285 (by decide) d_law_1286 d_law_1287 ?_
  refine kRV hc hw lk_law_136 (h := 58) (As := [.int (xs (i + 1))]) (rest := [_]) (c_MO_many l D g F pc lf lw cn fr to hv dy an af ln sz ce tr ft hG hM (xs (i + 1))) (rc_MO hw) ⟨Nat.le_of_ble_eq_true rfl, Nat.le_of_ble_eq_true rfl⟩ ⟨by show cells + 0 ≤ 600000; omega, by show slots + 0 ≤ 7302250; omega⟩ rfl hl rfl (Nat.le_of_ble_eq_true rfl) d_law_1288 ?_
  refine lv_icmp_eq (tgt := 1296) hx hb d_law_1291 (by decide) (fun _ => ?_) (fun h9 => absurd rfl h9)
  exact W.widen (by omega) (by omega) (kk g _ _ _ _ _ _ _ _ _ _ (hG) hC hM hw hl)
end LC
