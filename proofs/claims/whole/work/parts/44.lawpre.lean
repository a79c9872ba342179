/-! what stands at the entry of the law -/
theorem law_pre {p : Program} {s : State} {m : MethodId} {meth : Method} {c : Code} {b L : Nat} {xs : Nat → Int32} (C0 : lw_At p s m meth c b L xs) : ∃ (D : va_G) (g : wG), va_K D classes (wtys g) s ∧ Xz g s ∧ Nz s := by
  obtain ⟨hx, hb, hr, hml, hown, hts, hX, hbl, hlocks, hgv⟩ := id C0
  obtain ⟨zc0, zi0, zk0⟩ := u_known (C := R_AP) (T := F_AP) (N := 10) (n := 10) hts (fun w hw => (List.mem_filter.mp (i_AP w hw)).1) (hts _ m_16)
  obtain ⟨zc1, zi1, zk1⟩ := u_known (C := R_RW) (T := F_RW) (N := 3) (n := 3) hts (fun w hw => (List.mem_filter.mp (i_RW w hw)).1) (hts _ m_25)
  obtain ⟨zc2, zi2, zk2⟩ := u_known (C := R_LE) (T := F_LE) (N := 8) (n := 8) hts (fun w hw => (List.mem_filter.mp (i_LE w hw)).1) (hts _ m_46)
  obtain ⟨zc3, zi3, zk3⟩ := u_known (C := R_SE) (T := F_SE) (N := 4) (n := 4) hts (fun w hw => (List.mem_filter.mp (i_SE w hw)).1) (hts _ m_85)
  obtain ⟨zc4, zi4, zk4⟩ := u_known (C := R_TU) (T := F_TU) (N := 11) (n := 11) hts (fun w hw => (List.mem_filter.mp (i_TU w hw)).1) (hts _ m_104)
  obtain ⟨zc5, zi5, zk5⟩ := u_known (C := R_PA) (T := F_PA) (N := 5) (n := 5) hts (fun w hw => (List.mem_filter.mp (i_PA w hw)).1) (hts _ m_150)
  obtain ⟨zc6, zi6, zk6⟩ := u_known (C := R_TR) (T := F_TR) (N := 1) (n := 1) hts (fun w hw => (List.mem_filter.mp (i_TR w hw)).1) (hts _ m_175)
  obtain ⟨zc7, zi7, zk7⟩ := u_known (C := R_WR) (T := F_WR) (N := 2) (n := 2) hts (fun w hw => (List.mem_filter.mp (i_WR w hw)).1) (hts _ m_298)
  obtain ⟨zc8, zi8, zk8⟩ := u_known (C := R_MI) (T := F_MI) (N := 2) (n := 2) hts (fun w hw => (List.mem_filter.mp (i_MI w hw)).1) (hts _ m_271)
  obtain ⟨zc9, zi9, zk9⟩ := u_known (C := R_LA) (T := F_LA) (N := 2) (n := 2) hts (fun w hw => (List.mem_filter.mp (i_LA w hw)).1) (hts _ m_290)
  obtain ⟨zc10, zi10, zk10⟩ := u_known (C := R_MO) (T := F_MO) (N := 29) (n := 29) hts (fun w hw => (List.mem_filter.mp (i_MO w hw)).1) (hts _ m_609)
  have hKc : ∀ (k : Nat) (q : vw_C), classes[k]? = some q → u_Kn s q.1 q.2.1 q.2.2 ([zc0, zc1, zc2, zc3, zc4, zc5, zc6, zc7, zc8, zc9, zc10].getD k zc0) ([zi0, zi1, zi2, zi3, zi4, zi5, zi6, zi7, zi8, zi9, zi10].getD k zi0) := by
    intro k q hq
    match k, hq with
    | 0, hq => cases hq; exact zk0
    | 1, hq => cases hq; exact zk1
    | 2, hq => cases hq; exact zk2
    | 3, hq => cases hq; exact zk3
    | 4, hq => cases hq; exact zk4
    | 5, hq => cases hq; exact zk5
    | 6, hq => cases hq; exact zk6
    | 7, hq => cases hq; exact zk7
    | 8, hq => cases hq; exact zk8
    | 9, hq => cases hq; exact zk9
    | 10, hq => cases hq; exact zk10
    | k + 11, hq => simp [classes] at hq
  obtain ⟨cI, kI, compI, h1, h2, h3⟩ := Cond.arrayClass_spec (hts _ m_42)
  obtain ⟨cmR, cR, kR, r1, _, r3, r4, r5⟩ := Cond.arrayOver_spec (hts _ m_24)
  obtain ⟨cmW, cW, kW, w1, _, w3, w4, w5⟩ := Cond.arrayOver_spec (hts _ m_44)
  obtain ⟨cmA, cA, kA, a1, _, a3, a4, a5⟩ := arrayOverA_spec (hts _ m_110)
  have hcm : cmA = cI := Option.some.inj (a1.symm.trans h1)
  subst hcm
  have hA : ∀ (k : Nat) (q : ClassId × FieldType), (wtys ((fun _ => 0, (cmA, cR, cW, cA), fun _ => 0, 0) : wG))[k]? = some q → ArrOfT s q.1 q.2 ∧ va_RA s q.1 q.2 := by
    intro k q hq
    match k, hq with
    | 0, hq => cases hq; exact ⟨fun N z => ⟨(fun k h => by cases h), kI, h2, compI, h3⟩, h1⟩
    | 1, hq => cases hq; exact ⟨fun N z => ⟨(fun k h => by cases h), kR, r3, cmR, r4⟩, kR, cmR, r3, r4, r1, r5⟩
    | 2, hq => cases hq; exact ⟨fun N z => ⟨(fun k h => by cases h), kW, w3, cmW, w4⟩, kW, cmW, w3, w4, w1, w5⟩
    | 3, hq => cases hq; exact ⟨fun N z => ⟨(fun k h => by cases h), kA, a3, cmA, a4⟩, a5⟩
    | k + 4, hq => simp [wtys] at hq
  have hs := flat_of_before _ hgv
  refine ⟨(fun k => [zc0, zc1, zc2, zc3, zc4, zc5, zc6, zc7, zc8, zc9, zc10].getD k zc0, fun k => [zi0, zi1, zi2, zi3, zi4, zi5, zi6, zi7, zi8, zi9, zi10].getD k zi0), (fun _ => 0, (cmA, cR, cW, cA), fun _ => 0, 0), ⟨hKc, hA⟩, ⟨va_AO.of (hts _ m_24), va_AO.of (hts _ m_44), ⟨kA, a3, a4⟩, kI, compI, h2, h3⟩, ?_, ?_⟩
  · intro w hw
    refine va_Nw.of (nwl_tabs w hw) (A := #[Value.ref b]) ?_
    simp only [nwl, List.mem_cons, List.not_mem_nil, or_false] at hw
    rcases hw with rfl | rfl | rfl | rfl | rfl | rfl | rfl | rfl | rfl | rfl | rfl | rfl | rfl | rfl
    · exact hts _ m_26
    · exact hts _ m_47
    · exact hts _ m_86
    · exact hts _ m_105
    · exact hts _ m_151
    · exact hts _ m_176
    · exact hts _ m_399
    · exact hts _ m_471
    · exact hts _ m_488
    · exact hts _ m_494
    · exact hts _ m_568
    · exact hts _ m_930
    · exact hts _ m_931
    · exact hts _ m_932
  · intro q hq
    simp only [ncl, List.mem_cons, List.not_mem_nil, or_false] at hq
    rcases hq with rfl | rfl | rfl
    · exact va_Nc.of (hs (.not (.castable "AnswerPost$Writer" "AnswerPost$Miser")) (by decide +kernel))
    · exact va_Nc.of (hs (.not (.castable "AnswerPost$Writer" "AnswerPost$Lawyer")) (by decide +kernel))
    · exact va_Nc.of (hs (.not (.castable "AnswerPost$Miser" "AnswerPost$Lawyer")) (by decide +kernel))
