theorem gkF_3 (g : St) (x : Int32) (m k : Nat) : gkF g x m 3 k = if k < m ∧ g 5 k = x ∧ g 3 k = 1 then 0 else g 3 k := by
  induction m with
  | zero => rw [if_neg (fun z => by omega)]; rfl
  | succ m ih =>
    rw [gkF, gkF_k _ _ _ (show (5 : Nat) ≠ 3 by decide)]
    have hm : gkF g x m 3 m = g 3 m := by
      have key : ∀ a c, a ≤ c → gkF g x a 3 c = g 3 c := by
        intro a
        induction a with
        | zero => intro c _; rfl
        | succ a ih2 =>
          intro c hc
          rw [gkF]
          split
          · rw [up2_ne _ _ _ (by omega)]; exact ih2 c (by omega)
          · exact ih2 c (by omega)
      exact key m m (Nat.le_refl m)
    rw [hm]
    by_cases c : g 5 m = x ∧ g 3 m = 1
    · rw [if_pos c]
      by_cases e : k = m
      · subst e; rw [up2_self, if_pos ⟨by omega, c⟩]
      · rw [up2_ne _ _ _ e, ih]
        by_cases h : k < m ∧ g 5 k = x ∧ g 3 k = 1
        · rw [if_pos h, if_pos ⟨by omega, h.2⟩]
        · rw [if_neg h, if_neg (fun z => h ⟨by omega, z.2⟩)]
    · rw [if_neg c, ih]
      by_cases h : k < m ∧ g 5 k = x ∧ g 3 k = 1
      · rw [if_pos h, if_pos ⟨by omega, h.2⟩]
      · rw [if_neg h, if_neg (fun z => h ⟨?_, z.2⟩)]
        have : k ≠ m := fun e => c (by rw [← e]; exact z.2)
        omega
theorem lt500 {p : Nat} (hp : p < 1000) : nI p < 500 ↔ p < 500 := nI_ltI (b := 500) (by omega) (by decide)
theorem le500 {p : Nat} (hp : p < 1000) : (500 : Int32) ≤ nI p ↔ 500 ≤ p := nI_leI (a := 500) (by decide) (by omega)
section JGO
variable {n b q d tm : Nat} {φ ψ : St} {C : List Nat}
theorem J_go (i : IV n b q tm φ C) (R : Jr n b q d φ ψ) : ∃ d', d' ≤ q ∧ Rl n b q (gnF (mvF φ q).1 n b) (ov φ (goJ n (q - d) (mvJ ψ (q - d)))) ∧ goJ n (q - d) (mvJ ψ (q - d)) 13 0 = nI (q - d') ∧ (∀ c, c < q - d' → goJ n (q - d) (mvJ ψ (q - d)) 12 c = φ 12 (d' + c)) ∧ (∀ c, c < d' → gnF (mvF φ q).1 n b 10 (N (φ 12 c)) = 2) ∧ (∀ c, d' ≤ c → c < q → gnF (mvF φ q).1 n b 10 (N (φ 12 c)) = 1) ∧ ∀ r, b ≤ r → goJ n (q - d) (mvJ ψ (q - d)) 10 r = 0 := by
  have hb := i.x.2.1
  have hb5 := R.b5
  have hd := R.dq
  have hR := (J_mv i R (Nat.le_refl (q - d))).1
  rw [show d + (q - d) = q by omega] at hR
  obtain ⟨-, k2, k3, -⟩ := mv_geo i.x.o i.lc i.ge i.sp hb (Nat.le_refl q)
  have F10 : (mvF φ q).1 10 = φ 10 := mvF_k _ _ (by decide)
  have G12 : mvJ ψ (q - d) 12 = ψ 12 := mvJ_k _ _ (by decide)
  have G11 : ∀ r2, r2 < b → φ 10 r2 = 1 → mvJ ψ (q - d) 11 r2 = (mvF φ q).1 11 r2 := fun r2 hr2 z => (hR.fr hr2 (by rw [F10]; exact z)).symm
  -- where a float on the river stands in the order
  have pos : ∀ r, r < b → φ 10 r = 1 → ∃ c, d ≤ c ∧ c < q ∧ φ 12 c = nI r := fun r hr h1 => by
    obtain ⟨c, hc, e, -⟩ := i.lc.2.2.2 r hr (by rw [h1]; decide)
    refine ⟨c, ?_, hc, e⟩
    rcases Nat.lt_or_ge c d with z | z
    · have := R.gn c z
      rw [e, nIN (by omega), h1] at this
      exact absurd this (by decide)
    · exact z
  have near : ∀ c c2 r r2, d ≤ c → c < c2 → c2 < q → r < b → r2 < b → φ 12 c = nI r → φ 12 c2 = nI r2 → N ((mvF φ q).1 11 r2) + 9 < N ((mvF φ q).1 11 r) := fun c c2 r r2 h1 h2 h3 h4 h5 e e2 => by
    have := k3 c c2 h2 h3 (R.rv c h1 (by omega)) (R.rv c2 (by omega) h3)
    rw [e, e2, nIN (by omega), nIN (by omega)] at this
    exact this
  by_cases hA : q - d = 0 ∨ ∃ r, ψ 12 0 = nI r ∧ r < b ∧ mvJ ψ (q - d) 11 r < 500
  · -- none leaves
    have eG : goJ n (q - d) (mvJ ψ (q - d)) = mvJ ψ (q - d) := by
      rcases hA with z | ⟨r, e, hr, hlt⟩
      · rw [z]; rfl
      · exact goJ_stop (r := r) (by rw [G12]; exact e) (by omega) hlt
    have nog : ∀ r, r < b → ¬ gC (mvF φ q).1 r := fun r hr hg => by
      have h1 : φ 10 r = 1 := by rw [← F10]; exact hg.1
      obtain ⟨c, hc1, hc2, e⟩ := pos r hr h1
      rcases hA with z | ⟨r0, e0, hr0, hlt⟩
      · omega
      · have e0' : φ 12 d = nI r0 := by rw [← e0, R.h12 0 (by omega)]; rfl
        have h10 : φ 10 r0 = 1 := by have := R.rv d (Nat.le_refl d) (by omega); rw [e0', nIN (by omega)] at this; exact this
        obtain ⟨p0, p0', -, -, h5, ep0, -, hle⟩ := k2 r0 hr0 h10
        rw [G11 r0 hr0 h10, ep0, lt500 (by omega)] at hlt
        obtain ⟨p, p', -, -, h5b, ep, -, hle2⟩ := k2 r hr h1
        have hg2 := hg.2
        rw [ep, le500 (by omega)] at hg2
        by_cases ec : c = d
        · subst ec
          have : r = r0 := (nI_eq (by omega) (by omega)).mp (e.symm.trans e0')
          subst this
          rw [ep] at ep0
          have := (nI_eq (by omega) (by omega)).mp ep0
          omega
        · have := near d c r0 r (Nat.le_refl d) (by omega) hc2 hr0 hr e0' e
          rw [ep, ep0, nIN (by omega), nIN (by omega)] at this
          omega
    have eF : gnF (mvF φ q).1 n b = (mvF φ q).1 := by
      funext j k
      by_cases h10 : j = 10
      · subst h10; exact (gn_10 _ n b k).2 (fun z => nog k z.1 z.2)
      · by_cases h3 : j = 3
        · subst h3; exact (gn_3 _ n b k).2 (fun ⟨_, r, hr, _, hg⟩ => nog r hr hg)
        · rw [gn_f _ _ _ h3 h10]
    rw [eG, eF]
    refine ⟨d, hd, hR, by rw [mvJ_k _ _ (by decide)]; exact R.h13, fun c hc => by rw [G12]; exact R.h12 c hc, fun c hc => by rw [F10]; exact R.gn c hc, fun c h1 h2 => by rw [F10]; exact R.rv c h1 h2, fun r hr => by rw [mvJ_k _ _ (by decide)]; exact R.z10 r hr⟩
  · -- the first one leaves
    have hq0 : 0 < q - d := by
      rcases Nat.eq_zero_or_pos (q - d) with z | z
      · exact absurd (Or.inl z) hA
      · exact z
    obtain ⟨r0, hr0, e0, e0', h10⟩ := R.riv i 0 hq0
    rw [Nat.add_zero] at e0'
    have hge : ¬ mvJ ψ (q - d) 11 r0 < 500 := fun z => hA (Or.inr ⟨r0, e0, hr0, z⟩)
    obtain ⟨p0, p0', -, -, h5, ep0, -, hle⟩ := k2 r0 hr0 h10
    have hp0 : 500 ≤ p0' := by
      rw [G11 r0 hr0 h10, ep0, lt500 (by omega)] at hge; omega
    have hgc : ∀ r, r < b → (gC (mvF φ q).1 r ↔ r = r0) := fun r hr => by
      constructor
      · intro hg
        have h1 : φ 10 r = 1 := by rw [← F10]; exact hg.1
        obtain ⟨c, hc1, hc2, e⟩ := pos r hr h1
        by_cases ec : c = d
        · subst ec
          exact (nI_eq (by omega) (by omega)).mp (e.symm.trans e0')
        · obtain ⟨p, p', -, -, h5b, ep, -, hle2⟩ := k2 r hr h1
          have hg2 := hg.2
          rw [ep, le500 (by omega)] at hg2
          have := near d c r0 r (Nat.le_refl d) (by omega) hc2 hr0 hr e0' e
          rw [ep, ep0, nIN (by omega), nIN (by omega)] at this
          omega
      · intro e
        subst e
        exact ⟨by rw [F10]; exact h10, by rw [ep0, le500 (by omega)]; exact hp0⟩
    have eG : goJ n (q - d) (mvJ ψ (q - d)) = gkF (g2J (mvJ ψ (q - d)) (q - d) r0) (nI r0) n := by
      rw [goJ_go (r := r0) (by rw [G12]; exact e0) (by omega) hge hq0]
      by_cases h2 : q - d = 1
      · rw [h2]; rfl
      · obtain ⟨r1, hr1, e1, e1', h11⟩ := R.riv i 1 (by omega)
        refine goJ_stop (r := r1) ?_ (by omega) ?_
        · rw [gkF_k _ _ _ (by decide), g2J, up2_fld _ _ _ (by decide), shF_12, if_pos (by omega), up2_fld _ _ _ (by decide), G12]; exact e1
        · rw [gkF_k _ _ _ (by decide), g2J, up2_fld _ _ _ (by decide), shF_k _ _ (by decide), up2_fld _ _ _ (by decide), G11 r1 hr1 h11]
          obtain ⟨p, p', -, -, h5b, ep, -, hle2⟩ := k2 r1 hr1 h11
          have := near d (d + 1) r0 r1 (Nat.le_refl d) (by omega) (by omega) hr0 hr1 e0' e1'
          rw [ep, ep0, nIN (by omega), nIN (by omega)] at this
          rw [ep, lt500 (by omega)]; omega
    have kG : ∀ j, j ≠ 3 ∧ j ≠ 10 ∧ j ≠ 12 ∧ j ≠ 13 → gkF (g2J (mvJ ψ (q - d)) (q - d) r0) (nI r0) n j = mvJ ψ (q - d) j := fun j hj => by
      rw [gkF_k _ _ _ (by omega), g2J, up2_fld _ _ _ (by omega), shF_k _ _ (by omega), up2_fld _ _ _ (by omega)]
    have g2 : ∀ j, j ≠ 10 ∧ j ≠ 12 ∧ j ≠ 13 → g2J (mvJ ψ (q - d)) (q - d) r0 j = mvJ ψ (q - d) j := fun j hj => by
      rw [g2J, up2_fld _ _ _ (by omega), shF_k _ _ (by omega), up2_fld _ _ _ (by omega)]
    have kG10 : ∀ r, gkF (g2J (mvJ ψ (q - d)) (q - d) r0) (nI r0) n 10 r = if r = r0 then 2 else mvJ ψ (q - d) 10 r := fun r => by
      rw [gkF_k _ _ _ (by decide), g2J, up2_fld _ _ _ (by decide), shF_k _ _ (by decide), up2_c, if_pos rfl]
    have kF : ∀ j, j ≠ 3 ∧ j ≠ 10 → gnF (mvF φ q).1 n b j = (mvF φ q).1 j := fun j hj => gn_f _ _ _ hj.1 hj.2
    have F2_10 : ∀ r, r < b → gnF (mvF φ q).1 n b 10 r = if r = r0 then 2 else φ 10 r := fun r hr => by
      by_cases e : r = r0
      · rw [if_pos e]; exact (gn_10 _ n b r).1 ⟨hr, (hgc r hr).mpr e⟩
      · rw [if_neg e, (gn_10 _ n b r).2 (fun z => e ((hgc r hr).mp z.2)), F10]
    rw [eG]
    refine ⟨d + 1, by omega, ⟨fun j hj => ?_, fun j hj k hk => ?_, fun k hk h5k => ?_, fun j hj r hr => ?_, fun r hr h1 => ?_, fun c hc => ?_, ?_⟩, ?_, fun c hc => ?_, fun c hc => ?_, fun c h1 h2 => ?_, fun r hr => ?_⟩
    · rw [kF j (by omega), hR.n0 hj]
      by_cases e : j = 13
      · subst e; rfl
      · rw [ov_n _ _ (by omega), ov_n _ _ (by omega), kG j (by omega)]
    · rw [ov_n _ _ (by omega)]
      by_cases e : j = 3
      · subst e
        have e3 : (mvF φ q).1 3 k = mvJ ψ (q - d) 3 k := (hR.l (j := 3) (by decide) hk).trans (by rw [ov_n _ _ (by decide)])
        have e5 : (mvF φ q).1 5 k = mvJ ψ (q - d) 5 k := (hR.l (j := 5) (by decide) hk).trans (by rw [ov_n _ _ (by decide)])
        rw [gkF_3, g2 5 (by decide), g2 3 (by decide), ← e3, ← e5]
        have hst := i.st k hk
        rw [← show (mvF φ q).1 3 k = φ 3 k by rw [mvF_k _ _ (by decide)]] at hst
        by_cases c5 : (mvF φ q).1 5 k = nI r0
        · rw [(gn_3 _ n b k).1 ⟨hk, r0, hr0, c5, (hgc r0 hr0).mpr rfl⟩]
          unfold dkV
          rcases hst with z | z | z <;> rw [z] <;> simp [hk, c5]
        · rw [(gn_3 _ n b k).2 (fun ⟨_, r, hr, z, hg⟩ => c5 (by rw [z, (hgc r hr).mp hg])), if_neg (fun z => c5 z.2.1)]
      · rw [kF j (by omega), kG j (by omega), hR.l hj hk, ov_n _ _ (by omega)]
    · rw [kF 5 (by decide)] at h5k
      rw [kF 6 (by decide), ov_n _ _ (by decide), kG 6 (by decide), hR.s6 hk h5k, ov_n _ _ (by decide)]
    · rw [ov_n _ _ (by omega)]
      by_cases e : j = 10
      · subst e
        rw [F2_10 r hr, kG10]
        by_cases e2 : r = r0
        · rw [if_pos e2, if_pos e2]
        · rw [if_neg e2, if_neg e2, ← F10, hR.r (j := 10) (by decide) hr, ov_n _ _ (by decide)]
      · rw [kF j (by omega), kG j (by omega), hR.r hj hr, ov_n _ _ (by omega)]
    · rw [F2_10 r hr] at h1
      by_cases e2 : r = r0
      · rw [if_pos e2] at h1; exact absurd h1 (by decide)
      · rw [if_neg e2] at h1
        rw [kF 11 (by decide), ov_n _ _ (by decide), kG 11 (by decide), hR.fr hr (by rw [F10]; exact h1), ov_n _ _ (by decide)]
    · rw [kF 12 (by decide), mvF_k _ _ (by decide)]; rfl
    · rw [kF 17 (by decide), hR.gu, ov_n _ _ (by decide), ov_n _ _ (by decide), kG 17 (by decide)]
    · rw [gkF_k _ _ _ (by decide), g2J, up2_self, shF_k _ _ (by decide), up2_fld _ _ _ (by decide), mvJ_k _ _ (by decide), R.h13, show nI (q - d) - 1 = nI (q - d - 1) from pk_sub (b := 1) hq0]
      congr 1
    · rw [gkF_k _ _ _ (by decide), g2J, up2_fld _ _ _ (by decide), shF_12, if_pos (by omega), up2_fld _ _ _ (by decide), G12, R.h12 (c + 1) (by omega)]
      congr 1; omega
    · by_cases ec : c = d
      · subst ec
        rw [e0', nIN (by omega), F2_10 r0 hr0, if_pos rfl]
      · have z := R.gn c (by omega)
        obtain ⟨r, hr, e⟩ := i.x.o c (by omega)
        rw [e, nIN (by omega)] at z ⊢
        rw [F2_10 r hr]
        by_cases e2 : r = r0
        · rw [if_pos e2]
        · rw [if_neg e2]; exact z
    · have z := R.rv c (by omega) h2
      obtain ⟨r, hr, e⟩ := i.x.o c h2
      rw [e, nIN (by omega)] at z ⊢
      rw [F2_10 r hr, if_neg (fun e2 => ?_)]
      · exact z
      · subst e2
        have := i.lc.1 c d h2 (by omega) (e.trans e0'.symm)
        omega
    · rw [kG10, if_neg (by omega), mvJ_k _ _ (by decide)]; exact R.z10 r hr
theorem Jr.s1 (i : IV n b q tm φ C) (R : Jr n b q d φ ψ) : Jr n b q d (up2 φ 18 0 (nI (tm + 1))) (up2 ψ 18 0 (nI (tm + 1))) := ⟨by rw [ov_up _ _ (by decide), ov_c _ (up2_fld _ _ _ (by decide)) (up2_fld _ _ _ (by decide))]; exact R.r.up (by decide) (by decide) _ _, R.n8, R.b5, R.dq, R.h13, R.h12, R.gn, R.rv, R.g0, R.z10⟩
theorem J_mn (i : IV n b q tm φ C) (R : Jr n b q d φ ψ) : ∃ d', Jr n b q d' (minF φ n b q tm) (mnJ ψ n (q - d) tm) := by
  have hb := i.x.2.1
  have i1 := i.s1
  have R1 := R.s1 i
  have i' := i.mn
  obtain ⟨d', hd', hR, h13, h12, hgn, hrv, hz⟩ := J_go i1 R1
  have eg : guF (gnF (mvF (up2 φ 18 0 (nI (tm + 1))) q).1 n b) (tm + 1) = guJ (goJ n (q - d) (mvJ (up2 ψ 18 0 (nI (tm + 1))) (q - d))) (tm + 1) := by
    have e17 := hR.gu
    rw [ov_n _ _ (by decide)] at e17
    have f17 : gnF (mvF (up2 φ 18 0 (nI (tm + 1))) q).1 n b 17 = φ 17 := by rw [gn_f _ _ _ (by decide) (by decide), mvF_k _ _ (by decide)]; rfl
    unfold guF guJ
    by_cases c : tm + 1 < 64
    · rw [if_pos (by omega), if_pos c, e17]
    · rw [if_neg c, f17]
      split
      · exact R.g0 _ (by omega)
      · rfl
  have hbl := (hR.bl (guF (gnF (mvF (up2 φ 18 0 (nI (tm + 1))) q).1 n b) (tm + 1)) (Nat.le_refl n)).bu (Nat.le_refl n)
  rw [eg, bl_ov, bu_ov] at hbl
  have e5 : ∀ j, j ≠ 3 ∧ j ≠ 4 ∧ j ≠ 19 → buF (blF (gnF (mvF (up2 φ 18 0 (nI (tm + 1))) q).1 n b) (guJ (goJ n (q - d) (mvJ (up2 ψ 18 0 (nI (tm + 1))) (q - d))) (tm + 1)) n) n j = gnF (mvF (up2 φ 18 0 (nI (tm + 1))) q).1 n b j := fun j hj => by rw [kp_bu (by omega) (by omega), kp_bl (by omega) (by omega)]
  have hh4 : hgF n b (buF (blF (gnF (mvF (up2 φ 18 0 (nI (tm + 1))) q).1 n b) (guJ (goJ n (q - d) (mvJ (up2 ψ 18 0 (nI (tm + 1))) (q - d))) (tm + 1)) n) n) := hgF.eqv (f := φ) i.x.h (by rw [e5 5 (by decide), gn_f _ _ _ (by decide) (by decide), mvF_k _ _ (by decide)]; rfl)
  have hl4 : lpF (buF (blF (gnF (mvF (up2 φ 18 0 (nI (tm + 1))) q).1 n b) (guJ (goJ n (q - d) (mvJ (up2 ψ 18 0 (nI (tm + 1))) (q - d))) (tm + 1)) n) n) n := (i1.gl.dec (dec.bl _ _ _) (kp_bl (by decide) (by decide) _ _ _)).dec (dec.bu _ _) (kp_bu (by decide) (by decide) _ _)
  have hpe : ∀ k, k < n → hpB (buF (blF (goJ n (q - d) (mvJ (up2 ψ 18 0 (nI (tm + 1))) (q - d))) (guJ (goJ n (q - d) (mvJ (up2 ψ 18 0 (nI (tm + 1))) (q - d))) (tm + 1)) n) n) k = hpB (buF (blF (gnF (mvF (up2 φ 18 0 (nI (tm + 1))) q).1 n b) (guJ (goJ n (q - d) (mvJ (up2 ψ 18 0 (nI (tm + 1))) (q - d))) (tm + 1)) n) n) k := fun k hk => (hbl.hp hh4 hb hk).symm
  have hlG : lpF (buF (blF (goJ n (q - d) (mvJ (up2 ψ 18 0 (nI (tm + 1))) (q - d))) (guJ (goJ n (q - d) (mvJ (up2 ψ 18 0 (nI (tm + 1))) (q - d))) (tm + 1)) n) n) n := fun k hk z => by
    rw [hpe k hk]
    refine hl4 k hk ?_
    rw [hbl.l (j := 3) (by decide) hk, ov_n _ _ (by decide)]; exact z
  have em : ∀ j, j ≠ 3 ∧ j ≠ 4 ∧ j ≠ 19 ∧ j ≠ 20 → minF φ n b q tm j = gnF (mvF (up2 φ 18 0 (nI (tm + 1))) q).1 n b j := fun j hj => min_10 φ n b q tm hj
  have hPG : PLx n (buF (blF (goJ n (q - d) (mvJ (up2 ψ 18 0 (nI (tm + 1))) (q - d))) (guJ (goJ n (q - d) (mvJ (up2 ψ 18 0 (nI (tm + 1))) (q - d))) (tm + 1)) n) n) := fun k hk z => by
    have z4 := z
    rw [hpe k hk] at z4
    have z5 : hpB (minF φ n b q tm) k = true := by
      rw [← z4]; exact hpB_eq (by rw [em 5 (by decide), e5 5 (by decide)]) (by rw [em 10 (by decide), e5 10 (by decide)]) k
    obtain ⟨r, c, F, P, -, -, -, -, -, -, -, hF, eP, h1, h2⟩ := pl_n i' hk z5
    refine ⟨P, by omega, ?_⟩
    have y := hbl.ple hh4 hb hk z4
    rw [pl_ov] at y
    rw [← y, ← eP]
    unfold pl
    rw [em 11 (by decide), e5 11 (by decide), em 5 (by decide), e5 5 (by decide), em 6 (by decide), e5 6 (by decide)]
  have hfin := hbl.ma hh4 hb hl4 (Nat.le_refl n)
  rw [ma_ov _ _ hPG hlG (Nat.le_refl n)] at hfin
  have eM : minF φ n b q tm = maF (buF (blF (gnF (mvF (up2 φ 18 0 (nI (tm + 1))) q).1 n b) (guJ (goJ n (q - d) (mvJ (up2 ψ 18 0 (nI (tm + 1))) (q - d))) (tm + 1)) n) n) n := by
    unfold minF brF fmF; rw [eg]
  have eJ : ∀ j, j ≠ 3 ∧ j ≠ 4 ∧ j ≠ 19 ∧ j ≠ 20 → mnJ ψ n (q - d) tm j = goJ n (q - d) (mvJ (up2 ψ 18 0 (nI (tm + 1))) (q - d)) j := fun j hj => by
    unfold mnJ
    rw [maJ_k _ _ (by omega) (by omega), kp_bu (by omega) (by omega), kp_bl (by omega) (by omega)]
  have m12 : minF φ n b q tm 12 = φ 12 := min_k φ n b q tm (by decide)
  refine ⟨d', ?_, R.n8, R.b5, hd', by rw [eJ 13 (by decide)]; exact h13, fun c hc => by rw [eJ 12 (by decide), m12]; exact h12 c hc, fun c hc => by rw [m12, em 10 (by decide)]; exact hgn c hc, fun c h1 h2 => by rw [m12, em 10 (by decide)]; exact hrv c h1 h2, fun t ht => by rw [min_k φ n b q tm (by decide)]; exact R.g0 t ht, fun r hr => by rw [eJ 10 (by decide)]; exact hz r hr⟩
  rw [ov_c (φ := up2 φ 18 0 (nI (tm + 1))) _ (m12.trans rfl) ((min_k φ n b q tm (by decide)).trans rfl), eM]
  exact hfin
end JGO
