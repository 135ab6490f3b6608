set_option maxRecDepth 40000 in
theorem st_str {args : Array Value} {s : State} (hts : ∀ w ∈ lw_tbl, w.before args s = true) (hg : (Jvm.Cond.and given_1 narrow_1).before args s = true) : ∀ q ∈ xeS, ∃ sa : Nat, vk_R RX2 q.1 q.2 sa s := by
  have hf := flat_of_before _ hg
  have key : ∀ (k : Nat) (tx : String), (Cond.stringRef RX2 k tx).before args s = true → (Cond.exactly (.string RX2 k) "java/lang/String").before args s = true → ∃ sa : Nat, vk_R RX2 k tx sa s := by
    intro k tx h1 h2
    obtain ⟨a, -, -, -, h3, -⟩ := Cond.exactly_spec h2
    exact ⟨a, vk_R.of h1 h3⟩
  have hm : ∀ q ∈ xeS, Cond.stringRef RX2 q.1 q.2 ∈ lw_tbl := by decide +kernel
  have hx : ∀ q ∈ xeS, Cond.exactly (.string RX2 q.1) "java/lang/String" ∈ flatC (Jvm.Cond.and given_1 narrow_1) := by decide +kernel
  exact fun q hq => key q.1 q.2 (hts _ (hm q hq)) (hf _ (hx q hq))
set_option maxRecDepth 40000 in
theorem st_xe {args : Array Value} {s : State} (hts : ∀ w ∈ lw_tbl, w.before args s = true) (hg : (Jvm.Cond.and given_1 narrow_1).before args s = true) : xe s.heap.size s := by
  have hf := flat_of_before _ hg
  refine ⟨vx_Zqof (args := args) (hts _ (by decide +kernel)) (hts _ (by decide +kernel)) (hf _ (by decide +kernel)) (fun a ha => Nat.not_le.mpr ha), vx_Zqof (args := args) (hts _ (by decide +kernel)) (hts _ (by decide +kernel)) (hf _ (by decide +kernel)) (fun a ha => Nat.not_le.mpr ha), fun E hE => ?_, va_Nw.of rfl (hts _ (by decide +kernel)), va_Nw.of rfl (hts _ (by decide +kernel)), st_str hts hg, va_AO.of (hts _ (by decide +kernel)), va_AO.of (hts _ (by decide +kernel)), fun Y hY => ?_⟩
  · have hm : ∀ E ∈ xeE, Cond.castable E E ∈ lw_tbl := by decide +kernel
    exact va_Nw.of rfl (hts _ (hm E hE))
  · have hm : ∀ Y ∈ xeY, Cond.declares (Bundle.initS Y) ∈ lw_tbl := by decide +kernel
    exact va_Nw.of rfl (hts _ (hm Y hY))
