/-! what the tables say at the law's start -/
theorem K_pr {args : Array Value} {s : State} {ty : FieldType} (hty : ty = .int ∨ ty = .long) (h : (Cond.arrayClass ty).before args s = true) : ∃ cA, ArrOfT s cA ty ∧ va_RA s cA ty := by
  obtain ⟨c, k, comp, h1, h2, h3⟩ := Cond.arrayClass_spec h
  refine ⟨c, fun n z => ⟨fun k h => (by cases h), k, h2, comp, h3⟩, ?_⟩
  rcases hty with rfl | rfl <;> exact h1
theorem K_ob {args : Array Value} {s : State} {C : String} (h : (Cond.arrayOver (.object C)).before args s = true) : ∃ cA, ArrOfT s cA (.object C) ∧ va_RA s cA (.object C) := by
  obtain ⟨comp, c, k, h1, -, h3, h4, h5⟩ := Cond.arrayOver_spec h
  exact ⟨c, fun n z => ⟨fun k h => (by cases h), k, h3, comp, h4⟩, k, comp, h3, h4, h1, h5⟩
set_option maxRecDepth 40000 in
theorem inT0 : ∀ w ∈ wsX00, w ∈ lw_tbl := by decide +kernel
set_option maxRecDepth 40000 in
theorem inT1 : ∀ w ∈ wsX10, w ∈ lw_tbl := by decide +kernel
set_option maxRecDepth 40000 in
theorem inT2 : ∀ w ∈ wsX20, w ∈ lw_tbl := by decide +kernel
set_option maxRecDepth 40000 in
theorem st_K {args : Array Value} {s : State} (hts : ∀ w ∈ lw_tbl, w.before args s = true) : ∃ (D : va_G) (cI cL cR : ClassId), va_K D vwCl (tyW cI cL cR) s := by
  obtain ⟨c0, i0, h0⟩ := u_known (C := RX0) (T := TX0) (N := 7) (n := 7) hts inT0 (hts _ (by decide +kernel))
  obtain ⟨c1, i1, h1⟩ := u_known (C := RX1) (T := TX1) (N := 7) (n := 7) hts inT1 (hts _ (by decide +kernel))
  obtain ⟨c2, i2, h2⟩ := u_known (C := RX2) (T := TX2) (N := 12) (n := 12) hts inT2 (hts _ (by decide +kernel))
  obtain ⟨cI, eI⟩ := K_pr (s := s) (Or.inl rfl) (hts (.arrayClass .int) (by decide +kernel))
  obtain ⟨cL, eL⟩ := K_ob (s := s) (hts (.arrayOver (.object "Festoon$Lantern")) (by decide +kernel))
  obtain ⟨cR, eR⟩ := K_ob (s := s) (hts (.arrayOver (.object "Festoon$Raft")) (by decide +kernel))
  refine ⟨(fun k => if k = 0 then c0 else if k = 1 then c1 else c2, fun k => if k = 0 then i0 else if k = 1 then i1 else i2), cI, cL, cR, fun k q hq => ?_, fun k q hq => ?_⟩
  · match k, hq with
    | 0, hq => cases hq; exact h0
    | 1, hq => cases hq; exact h1
    | 2, hq => cases hq; exact h2
    | k + 3, hq => simp [vwCl] at hq
  · match k, hq with
    | 0, hq => cases hq; exact eI
    | 1, hq => cases hq; exact eL
    | 2, hq => cases hq; exact eR
    | k + 3, hq => simp [tyW] at hq
set_option maxRecDepth 40000 in
theorem st_Nc {args : Array Value} {s : State} (hg : (Jvm.Cond.and given_1 narrow_1).before args s = true) : NcA s := by
  have hf := flat_of_before _ hg
  intro E hE E' hE' hne
  simp only [xeE, List.mem_cons, List.not_mem_nil, or_false] at hE hE'
  rcases hE with rfl | rfl | rfl <;> rcases hE' with rfl | rfl | rfl
  · exact absurd rfl hne
  · exact va_Nc.of (hf _ (by decide +kernel))
  · exact va_Nc.of (hf _ (by decide +kernel))
  · exact va_Nc.of (hf _ (by decide +kernel))
  · exact absurd rfl hne
  · exact va_Nc.of (hf _ (by decide +kernel))
  · exact va_Nc.of (hf _ (by decide +kernel))
  · exact va_Nc.of (hf _ (by decide +kernel))
  · exact absurd rfl hne
set_option maxRecDepth 40000 in
theorem st_str {args : Array Value} {s : State} (hts : ∀ w ∈ lw_tbl, w.before args s = true) (hg : (Jvm.Cond.and given_1 narrow_1).before args s = true) : ∀ q ∈ xeS, ∃ sa : Nat, vk_R RX2 q.1 q.2 sa s := by
  have hf := flat_of_before _ hg
  have key : ∀ (k : Nat) (tx : String), (Cond.stringRef RX2 k tx).before args s = true → (Cond.exactly (.string RX2 k) "java/lang/String").before args s = true → ∃ sa : Nat, vk_R RX2 k tx sa s := by
    intro k tx h1 h2
    obtain ⟨a, -, -, -, h3, -⟩ := Cond.exactly_spec h2
    exact ⟨a, vk_R.of h1 h3⟩
  have hm : ∀ q ∈ xeS, Cond.stringRef RX2 q.1 q.2 ∈ lw_tbl := by decide +kernel
  have hx : ∀ q ∈ xeS, Cond.exactly (.string RX2 q.1) "java/lang/String" ∈ flatC (Jvm.Cond.and given_1 narrow_1) := by decide +kernel
  exact fun q hq => key q.1 q.2 (hts _ (hm q hq)) (hf _ (hx q hq))
set_option maxRecDepth 40000 in
theorem st_xe {args : Array Value} {s : State} (hts : ∀ w ∈ lw_tbl, w.before args s = true) (hg : (Jvm.Cond.and given_1 narrow_1).before args s = true) : xe s.heap.size s := by
  have hf := flat_of_before _ hg
  refine ⟨vx_Zqof (args := args) (hts _ (by decide +kernel)) (hts _ (by decide +kernel)) (hf _ (by decide +kernel)) (fun a ha => Nat.not_le.mpr ha), vx_Zqof (args := args) (hts _ (by decide +kernel)) (hts _ (by decide +kernel)) (hf _ (by decide +kernel)) (fun a ha => Nat.not_le.mpr ha), fun E hE => ?_, va_Nw.of rfl (hts _ (by decide +kernel)), va_Nw.of rfl (hts _ (by decide +kernel)), st_str hts hg, va_AO.of (hts _ (by decide +kernel)), va_AO.of (hts _ (by decide +kernel)), fun Y hY => ?_⟩
  · have hm : ∀ E ∈ xeE, Cond.castable E E ∈ lw_tbl := by decide +kernel
    exact va_Nw.of rfl (hts _ (hm E hE))
  · have hm : ∀ Y ∈ xeY, Cond.declares (Bundle.initS Y) ∈ lw_tbl := by decide +kernel
    exact va_Nw.of rfl (hts _ (hm Y hY))
